/-! sums and least ones over places -/
def sS : Nat → (Nat → Nat) → Nat
  | 0, _ => 0
  | n + 1, f => sS n f + f n
def sI : Nat → (Nat → Int32) → Int32
  | 0, _ => 0
  | n + 1, f => sI n f + f n
theorem sS_c {f g : Nat → Nat} : ∀ n, (∀ i, i < n → f i = g i) → sS n f = sS n g := by
  intro n
  induction n with
  | zero => intro _; rfl
  | succ n ih => intro h; unfold sS; rw [ih (fun i hi => h i (by omega)), h n (by omega)]
theorem sS_one {f g : Nat → Nat} {i : Nat} : ∀ n, i < n → (∀ j, j < n → j ≠ i → f j = g j) → sS n f + g i = sS n g + f i := by
  intro n
  induction n with
  | zero => intro h; omega
  | succ n ih =>
    intro hi h
    unfold sS
    by_cases e : i = n
    · subst e
      have := sS_c i (fun j hj => h j (by omega) (by omega))
      omega
    · have h1 := ih (by omega) (fun j hj hne => h j (by omega) hne)
      have h2 := h n (by omega) (by omega)
      omega
theorem sS_le {f : Nat → Nat} {c : Nat} : ∀ n, (∀ i, i < n → f i ≤ c) → sS n f ≤ n * c := by
  intro n
  induction n with
  | zero => intro _; simp [sS]
  | succ n ih =>
    intro h
    unfold sS
    have := ih (fun i hi => h i (by omega))
    have := h n (by omega)
    rw [Nat.succ_mul]; omega
theorem sS_mono {f g : Nat → Nat} : ∀ n, (∀ i, i < n → f i ≤ g i) → sS n f ≤ sS n g := by
  intro n
  induction n with
  | zero => intro _; simp [sS]
  | succ n ih =>
    intro h
    unfold sS
    have := ih (fun i hi => h i (by omega))
    have := h n (by omega)
    omega
theorem sS_add (f g : Nat → Nat) : ∀ n, sS n (fun i => f i + g i) = sS n f + sS n g := by
  intro n
  induction n with
  | zero => rfl
  | succ n ih => unfold sS; dsimp only; omega
theorem sS_mul (f : Nat → Nat) (c : Nat) : ∀ n, sS n (fun i => c * f i) = c * sS n f := by
  intro n
  induction n with
  | zero => rfl
  | succ n ih => unfold sS; rw [ih, Nat.mul_add]
theorem sS_in {f : Nat → Nat} {i : Nat} : ∀ n, i < n → f i ≤ sS n f := by
  intro n
  induction n with
  | zero => intro h; omega
  | succ n ih =>
    intro h
    unfold sS
    by_cases e : i = n
    · subst e; omega
    · have := ih (by omega); omega
theorem sI_c {f g : Nat → Int32} : ∀ n, (∀ i, i < n → f i = g i) → sI n f = sI n g := by
  intro n
  induction n with
  | zero => intro _; rfl
  | succ n ih => intro h; unfold sI; rw [ih (fun i hi => h i (by omega)), h n (by omega)]
theorem sI_nat (f : Nat → Nat) : ∀ n, sI n (fun i => Int32.ofNat (f i)) = Int32.ofNat (sS n f) := by
  intro n
  induction n with
  | zero => rfl
  | succ n ih => unfold sI sS; rw [ih, nI_plus2]
theorem sI_add (f g : Nat → Int32) : ∀ n, sI n (fun i => f i + g i) = sI n f + sI n g := by
  intro n
  induction n with
  | zero => rfl
  | succ n ih => unfold sI; rw [ih]; dsimp only; ac_rfl
/-- one place becomes x more -/
theorem sI_inc {f g : Nat → Int32} {i : Nat} {x : Int32} : ∀ n, i < n → (∀ j, j < n → j ≠ i → g j = f j) → g i = f i + x → sI n g = sI n f + x := by
  intro n
  induction n with
  | zero => intro h; omega
  | succ n ih =>
    intro hi h hx
    unfold sI
    by_cases e : i = n
    · subst e
      rw [sI_c i (fun j hj => h j (by omega) (by omega)), hx]; ac_rfl
    · rw [ih (by omega) (fun j hj hne => h j (by omega) hne) hx, h n (by omega) (by omega)]; ac_rfl
theorem sI_upd {f : Nat → Int32} {i : Nat} {x : Int32} {n : Nat} (hi : i < n) : sI n (upd f i (f i + x)) = sI n f + x :=
  sI_inc n hi (fun j _ hne => by rw [upd_at, if_neg hne]) (by rw [upd_at, if_pos rfl])
theorem sI_upd_out {f : Nat → Int32} {i : Nat} {x : Int32} {n : Nat} (hi : ¬ i < n) : sI n (upd f i x) = sI n f :=
  sI_c n (fun j hj => by rw [upd_at, if_neg (by omega)])
theorem nI_ne1 {n : Nat} (h : n < 2147483648) : Int32.ofNat n ≠ -1 := by
  intro e
  have h1 : (Int32.ofNat n).toInt = (-1 : Int32).toInt := by rw [e]
  rw [Int32.toInt_ofNat_of_lt (by omega)] at h1
  have h2 : (-1 : Int32).toInt = -1 := by decide
  omega
theorem nI_inj {a b : Nat} (ha : a < 2147483648) (hb : b < 2147483648) (h : Int32.ofNat a = Int32.ofNat b) : a = b := (nI_eq (by omega) (by omega)).mp h
/-- the least place of a kind, the lowest of several -/
def aM (P : Nat → Bool) (lt : Nat → Nat → Bool) : Nat → Int32
  | 0 => -1
  | n + 1 => if P n = true ∧ (aM P lt n = -1 ∨ lt n (aM P lt n).toNatClampNeg = true) then Int32.ofNat n else aM P lt n
theorem aM_spec (P : Nat → Bool) (lt : Nat → Nat → Bool) : ∀ n, n < 2147483648 → (aM P lt n = -1 ∧ ∀ i, i < n → P i = false) ∨ ∃ i, i < n ∧ aM P lt n = Int32.ofNat i ∧ P i = true := by
  intro n
  induction n with
  | zero => intro _; exact Or.inl ⟨rfl, fun i hi => absurd hi (Nat.not_lt_zero _)⟩
  | succ n ih =>
    intro hn
    unfold aM
    by_cases hc : P n = true ∧ (aM P lt n = -1 ∨ lt n (aM P lt n).toNatClampNeg = true)
    · rw [if_pos hc]
      exact Or.inr ⟨n, by omega, rfl, hc.1⟩
    · rw [if_neg hc]
      rcases ih (by omega) with ⟨h1, h2⟩ | ⟨i, h1, h2, h3⟩
      · refine Or.inl ⟨h1, fun i hi => ?_⟩
        by_cases e : i = n
        · subst e
          cases hp : P i with
          | false => rfl
          | true => exact absurd ⟨hp, Or.inl h1⟩ hc
        · exact h2 i (by omega)
      · exact Or.inr ⟨i, by omega, h2, h3⟩
theorem aM_c {P P' : Nat → Bool} {lt lt' : Nat → Nat → Bool} : ∀ n, n < 2147483648 → (∀ i, i < n → P i = P' i) → (∀ i j, i < n → j < n → P i = true → P j = true → lt i j = lt' i j) → aM P lt n = aM P' lt' n := by
  intro n
  induction n with
  | zero => intro _ _ _; rfl
  | succ n ih =>
    intro hn hP hl
    have h1 := ih (by omega) (fun i hi => hP i (by omega)) (fun i j hi hj => hl i j (by omega) (by omega))
    unfold aM
    rw [← h1, ← hP n (by omega)]
    by_cases hp : P n = true
    · rcases aM_spec P lt n (by omega) with ⟨h2, _⟩ | ⟨i, h3, h4, h5⟩
      · rw [h2]; simp
      · rw [h4, nI_ix (by omega), hl n i (by omega) (by omega) hp h5]
    · simp [hp]
/-- blocks of 8 slots: one slot's number becomes 1 more -/
theorem blk_one {f g : Nat → Nat} {b n : Nat} (hb : b < 12) (hn : n < 8) (h : ∀ k, k < 96 → k ≠ 8 * b + n → f k = g k) (h1 : f (8 * b + n) + 1 = g (8 * b + n)) :
    (∀ b', b' < 12 → b' ≠ b → sS 8 (fun j => f (8 * b' + j)) = sS 8 (fun j => g (8 * b' + j))) ∧ sS 8 (fun j => f (8 * b + j)) + 1 = sS 8 (fun j => g (8 * b + j)) ∧ sS 12 (fun b' => sS 8 (fun j => f (8 * b' + j))) + 1 = sS 12 (fun b' => sS 8 (fun j => g (8 * b' + j))) := by
  have e1 : ∀ b', b' < 12 → b' ≠ b → sS 8 (fun j => f (8 * b' + j)) = sS 8 (fun j => g (8 * b' + j)) := fun b' hb' hne => sS_c 8 (fun j hj => h _ (by omega) (by omega))
  have e2 : sS 8 (fun j => f (8 * b + j)) + 1 = sS 8 (fun j => g (8 * b + j)) := by
    have := sS_one (f := fun j => f (8 * b + j)) (g := fun j => g (8 * b + j)) (i := n) 8 hn (fun j hj hne => h _ (by omega) (by omega))
    omega
  refine ⟨e1, e2, ?_⟩
  have := sS_one (f := fun b' => sS 8 (fun j => f (8 * b' + j))) (g := fun b' => sS 8 (fun j => g (8 * b' + j))) (i := b) 12 hb (fun b' hb' hne => e1 b' hb' hne)
  omega
