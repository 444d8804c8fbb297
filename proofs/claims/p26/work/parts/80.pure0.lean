/-! loops of the pictures: by a measure, by a count -/
theorem runC_wf {S : Type} {f : S → Bool × S} {K : S → Prop} (I : S → Prop) (μ : S → Nat) (P : S → Prop) (hs : ∀ z, I z → K z ∧ ((f z).1 = true → I (f z).2 ∧ μ (f z).2 < μ z) ∧ ((f z).1 = false → P (f z).2)) : ∀ (fuel : Nat) (z : S), I z → μ z < fuel → rOk f K fuel z ∧ P (runC f fuel z) := by
  intro fuel
  induction fuel with
  | zero => intro z _ h; omega
  | succ n ih =>
    intro z hI hμ
    obtain ⟨hk, ht, hf⟩ := hs z hI
    cases hb : (f z).1 with
    | true =>
      obtain ⟨a, b⟩ := ht hb
      obtain ⟨c, d⟩ := ih _ a (by omega)
      exact ⟨⟨hk, fun _ => c⟩, by unfold runC; rw [if_pos hb]; exact d⟩
    | false =>
      exact ⟨⟨hk, fun h => by rw [hb] at h; cases h⟩, by unfold runC; rw [if_neg (by rw [hb]; decide)]; exact hf hb⟩
theorem run_wf {S : Type} {f : S → Bool × S} {K : S → Prop} (I : S → Prop) (μ : S → Nat) (P : S → Prop) {fuel : Nat} {z : S} (h0 : I z) (hμ : μ z < fuel) (hs : ∀ z, I z → K z ∧ ((f z).1 = true → I (f z).2 ∧ μ (f z).2 < μ z) ∧ ((f z).1 = false → P (f z).2)) : rOk f K fuel z ∧ P (run f fuel z) := by
  rw [run_def]; exact runC_wf I μ P hs fuel z h0 hμ
theorem runC_count {S : Type} {f : S → Bool × S} {K : S → Prop} (I : Nat → S → Prop) (P : S → Prop) {N : Nat} (hs : ∀ n z, n < N → I n z → K z ∧ (f z).1 = true ∧ I (n + 1) (f z).2) (he : ∀ z, I N z → K z ∧ (f z).1 = false ∧ P (f z).2) : ∀ (fuel n : Nat) (z : S), n ≤ N → N - n < fuel → I n z → rOk f K fuel z ∧ P (runC f fuel z) := by
  intro fuel
  induction fuel with
  | zero => intro n z _ h; omega
  | succ k ih =>
    intro n z hn hf hI
    by_cases h : n < N
    · obtain ⟨a, b, c⟩ := hs n z h hI
      obtain ⟨d, e⟩ := ih (n + 1) _ (by omega) (by omega) c
      exact ⟨⟨a, fun _ => d⟩, by unfold runC; rw [if_pos b]; exact e⟩
    · have h9 : n = N := by omega
      subst h9
      obtain ⟨a, b, c⟩ := he z hI
      exact ⟨⟨a, fun h => by rw [b] at h; cases h⟩, by unfold runC; rw [if_neg (by rw [b]; decide)]; exact c⟩
theorem run_count {S : Type} {f : S → Bool × S} {K : S → Prop} {N fuel : Nat} (I : Nat → S → Prop) (P : S → Prop) {z : S} (hN : N < fuel) (h0 : I 0 z) (hs : ∀ n z, n < N → I n z → K z ∧ (f z).1 = true ∧ I (n + 1) (f z).2) (he : ∀ z, I N z → K z ∧ (f z).1 = false ∧ P (f z).2) : rOk f K fuel z ∧ P (run f fuel z) := by
  rw [run_def]; exact runC_count I P hs he fuel 0 z (Nat.zero_le _) (by omega) h0
/-! numbers below 2^31 as ints: what an index is -/
theorem nI_ix {n : Nat} (h : n < 2147483648) : (Int32.ofNat n).toNatClampNeg = n := Int32.toNatClampNeg_ofNat_of_lt (by omega)
theorem nI_plus2 (n k : Nat) : Int32.ofNat n + Int32.ofNat k = Int32.ofNat (n + k) := (Int32.ofNat_add n k).symm
theorem nI_times (n k : Nat) : Int32.ofNat n * Int32.ofNat k = Int32.ofNat (n * k) := (Int32.ofNat_mul n k).symm
/-- a page's place in a row: 144 + 5 p + k -/
theorem ix_of (p k : Nat) : ((144 : Int32) + (5 : Int32) * Int32.ofNat p) + Int32.ofNat k = Int32.ofNat (144 + 5 * p + k) := by
  rw [show (144 : Int32) = Int32.ofNat 144 from rfl, show (5 : Int32) = Int32.ofNat 5 from rfl, nI_times, nI_plus2, nI_plus2]
theorem f_r_of_at (m : gM) {p k : Nat} (hp : p < 40) (hk : k < 5) : f_r_of m (Int32.ofNat p) (Int32.ofNat k) = m 0 (144 + 5 * p + k) ∧ o_r_of m (Int32.ofNat p) (Int32.ofNat k) := by
  unfold f_r_of o_r_of
  rw [ix_of, nI_ix (by omega)]
  exact ⟨rfl, vp_in_nI (by omega) (by omega), trivial⟩
