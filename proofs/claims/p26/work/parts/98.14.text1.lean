/-! writes as a text: what can go on. A state: what was read latest (0 nothing of a part, 1 a page, 2 the sign, 3 a last page, 4 the mark, 5 a hint), first, last, hint -/
def pW (b f l : Nat) : Prop := b = 1 ∨ b = 5 ∨ (b = 3 ∧ f < l)
def dig (c : Nat) : Prop := 48 ≤ c ∧ c ≤ 57
def dst (b f l h c : Nat) : Option (Nat × Nat × Nat × Nat) :=
  if 48 ≤ c ∧ c ≤ 57 then
    (if b = 0 then some (1, c - 48, c - 48, 0)
    else if b = 1 then (if 1 ≤ f ∧ f ≤ 3 then some (1, 10 * f + (c - 48), 10 * f + (c - 48), h) else none)
    else if b = 2 then (if f < c - 48 ∨ (1 ≤ c - 48 ∧ c - 48 ≤ 3 ∧ f < 10 * (c - 48) + 9) then some (3, f, c - 48, h) else none)
    else if b = 3 then (if 1 ≤ l ∧ l ≤ 3 ∧ f < 10 * l + (c - 48) then some (3, f, 10 * l + (c - 48), h) else none)
    else if b = 4 then (if c - 48 < 4 then some (5, f, l, c - 48) else none)
    else none)
  else if c = 45 then (if b = 1 ∧ f < 39 then some (2, f, l, h) else none)
  else if c = 104 then (if (b = 1 ∨ (b = 3 ∧ f < l)) then some (4, f, l, h) else none)
  else if c = 59 then (if (b = 1 ∨ b = 5 ∨ (b = 3 ∧ f < l)) then some (0, f, l, h) else none)
  else none
def drn (tx : Nat → Nat) : Nat × Nat × Nat × Nat → Nat → Nat → Option (Nat × Nat × Nat × Nat)
  | s, _, 0 => some s
  | s, a, n + 1 => (dst s.1 s.2.1 s.2.2.1 s.2.2.2 (tx a)).bind (fun s' => drn tx s' (a + 1) n)
theorem drn_add (tx : Nat → Nat) : ∀ (n k : Nat) (s : Nat × Nat × Nat × Nat) (a : Nat), drn tx s a (n + k) = (drn tx s a n).bind (fun s' => drn tx s' (a + n) k) := by
  intro n
  induction n with
  | zero => intro k s a; rw [Nat.zero_add]; rfl
  | succ n ih =>
    intro k s a
    rw [show n + 1 + k = (n + k) + 1 by omega]
    show (dst s.1 s.2.1 s.2.2.1 s.2.2.2 (tx a)).bind (fun s' => drn tx s' (a + 1) (n + k)) = ((dst s.1 s.2.1 s.2.2.1 s.2.2.2 (tx a)).bind (fun s' => drn tx s' (a + 1) n)).bind _
    cases dst s.1 s.2.1 s.2.2.1 s.2.2.2 (tx a) with
    | none => rfl
    | some s' => show drn tx s' (a + 1) (n + k) = _; rw [ih k s' (a + 1), show a + 1 + n = a + (n + 1) by omega]; rfl
theorem drn_snoc {tx : Nat → Nat} {s : Nat × Nat × Nat × Nat} {a n b f l h : Nat} {s' : Nat × Nat × Nat × Nat} (h1 : drn tx s a n = some (b, f, l, h)) (h2 : dst b f l h (tx (a + n)) = some s') : drn tx s a (n + 1) = some s' := by
  rw [drn_add, h1]
  show (dst b f l h (tx (a + n))).bind (fun s' => drn tx s' (a + n + 1) 0) = some s'
  rw [h2]; rfl
def vS (b f l h : Nat) : Prop := b ≤ 5 ∧ f ≤ 39 ∧ l ≤ 39 ∧ h ≤ 3 ∧ ((b = 1 ∨ b = 2) → l = f) ∧ ((b = 1 ∨ b = 2 ∨ b = 3) → h = 0) ∧ ((b = 4 ∨ b = 5) → f ≤ l)
theorem dst_vS {b f l h c b' f' l' h' : Nat} (hv : vS b f l h) (hd : dst b f l h c = some (b', f', l', h')) : vS b' f' l' h' := by
  obtain ⟨v1, v2, v3, v4, v5, v6, v7⟩ := hv
  unfold dst at hd
  unfold vS
  split at hd
  · split at hd
    · cases hd; omega
    · split at hd
      · split at hd
        · cases hd; omega
        · cases hd
      · split at hd
        · split at hd
          · cases hd; omega
          · cases hd
        · split at hd
          · split at hd
            · cases hd; omega
            · cases hd
          · split at hd
            · split at hd
              · cases hd; omega
              · cases hd
            · cases hd
  · split at hd
    · split at hd
      · cases hd; omega
      · cases hd
    · split at hd
      · split at hd
        · cases hd; omega
        · cases hd
      · split at hd
        · split at hd
          · cases hd; omega
          · cases hd
        · cases hd
theorem drn_vS {tx : Nat → Nat} : ∀ (n a : Nat) {b f l h b' f' l' h' : Nat}, vS b f l h → drn tx (b, f, l, h) a n = some (b', f', l', h') → vS b' f' l' h' := by
  intro n
  induction n with
  | zero => intro a b f l h b' f' l' h' hv hd; cases hd; exact hv
  | succ n ih =>
    intro a b f l h b' f' l' h' hv hd
    have hd' : (dst b f l h (tx a)).bind (fun s' => drn tx s' (a + 1) n) = some (b', f', l', h') := hd
    cases hq : dst b f l h (tx a) with
    | none => rw [hq] at hd'; cases hd'
    | some s' =>
      obtain ⟨b1, f1, l1, h1⟩ := s'
      rw [hq] at hd'
      exact ih (a + 1) (dst_vS hv hq) hd'
/-! the class's reader -/
def rdS (m : gM) (b f l h : Nat) : Prop := m 0 0 = Int32.ofNat b ∧ m 0 1 = Int32.ofNat f ∧ m 0 2 = Int32.ofNat l ∧ m 0 3 = Int32.ofNat h
def rdR (m : gM) (b f l h : Nat) : Prop := m 0 0 = Int32.ofNat b ∧ (b ≠ 0 → m 0 1 = Int32.ofNat f ∧ m 0 2 = Int32.ofNat l ∧ m 0 3 = Int32.ofNat h)
theorem eqL {a b : Nat} (ha : a < 2147483648) (hb : b < 2147483648) : (Int32.ofNat a = Int32.ofNat b) = (a = b) := propext (eqI ha hb)
theorem goesOn_1 (m : gM) (k : Int32) : f_d_goesOn m 1 k = (1, g_set m 0 (upd (m 0) 0 k)) ∧ o_d_goesOn m 1 k := by
  have n10 : ¬ ((1 : Int32) = 0) := by decide
  unfold f_d_goesOn o_d_goesOn
  rw [if_neg n10, if_neg n10, g_let_def, g_let_def]
  exact ⟨rfl, Or.inr rfl, trivial⟩
theorem goesOn_0 (m : gM) (k : Int32) : f_d_goesOn m 0 k = (0, m) ∧ o_d_goesOn m 0 k := by
  unfold f_d_goesOn o_d_goesOn
  rw [if_pos rfl, if_pos rfl]
  exact ⟨rfl, Or.inl rfl, trivial⟩
theorem partWhole_d {m : gM} {b f l h : Nat} (hr : rdR m b f l h) (hb : b ≤ 5) (hf : f ≤ 39) (hl : l ≤ 39) : ((pW b f l ∧ f_d_isPartWhole m = 1) ∨ (¬ pW b f l ∧ f_d_isPartWhole m = 0)) ∧ o_d_isPartWhole m := by
  obtain ⟨r0, r1⟩ := hr
  unfold pW f_d_isPartWhole o_d_isPartWhole
  rw [r0]
  match b, hb, r1 with
  | 0, _, _ => exact ⟨Or.inr ⟨by omega, rfl⟩, trivial⟩
  | 1, _, _ => exact ⟨Or.inl ⟨Or.inl rfl, rfl⟩, trivial⟩
  | 2, _, _ => exact ⟨Or.inr ⟨by omega, rfl⟩, trivial⟩
  | 3, _, r1 =>
    obtain ⟨q1, q2, q3⟩ := r1 (by omega)
    rw [q1, q2]
    have e3 : Int32.ofNat 3 = (3 : Int32) := rfl
    have e1 : ¬ (Int32.ofNat 3 = (1 : Int32)) := by decide
    have e5 : ¬ (Int32.ofNat 3 = (5 : Int32)) := by decide
    rw [if_neg e1, if_neg e5, if_pos e3, if_neg e1, if_neg e5, if_pos e3]
    by_cases w : l ≤ f
    · rw [if_pos ((leI (by omega) (by omega)).mpr w)]
      refine ⟨Or.inr ⟨by omega, rfl⟩, ?_⟩
      split <;> trivial
    · rw [if_neg (fun z => w ((leI (by omega) (by omega)).mp z))]
      refine ⟨Or.inl ⟨by omega, rfl⟩, ?_⟩
      split <;> trivial
  | 4, _, _ => exact ⟨Or.inr ⟨by omega, rfl⟩, trivial⟩
  | 5, _, _ => exact ⟨Or.inl ⟨Or.inr (Or.inl rfl), rfl⟩, trivial⟩
  | n + 6, z, _ => omega
theorem mayGrow_d {f : Nat} (hf : f < 100) : ((1 ≤ f ∧ f ≤ 3 ∧ f_d_mayGrow (Int32.ofNat f) = 1) ∨ (¬ (1 ≤ f ∧ f ≤ 3) ∧ f_d_mayGrow (Int32.ofNat f) = 0)) ∧ o_d_mayGrow (Int32.ofNat f) := by
  unfold f_d_mayGrow o_d_mayGrow
  have k1 := ltI (a := f) (b := 1) (by omega) (by omega)
  have k3 := ltI (a := 3) (b := f) (by omega) (by omega)
  by_cases w1 : f < 1
  · have e1 : Int32.ofNat f < (1 : Int32) := k1.mpr w1
    rw [if_pos e1, if_pos e1]; exact ⟨Or.inr ⟨by omega, rfl⟩, trivial⟩
  · have e1 : ¬ (Int32.ofNat f < (1 : Int32)) := fun z => w1 (k1.mp z)
    rw [if_neg e1, if_neg e1]
    by_cases w3 : 3 < f
    · have e3 : (3 : Int32) < Int32.ofNat f := k3.mpr w3
      rw [if_pos e3, if_pos e3]; exact ⟨Or.inr ⟨by omega, rfl⟩, trivial⟩
    · have e3 : ¬ ((3 : Int32) < Int32.ofNat f) := fun z => w3 (k3.mp z)
      rw [if_neg e3, if_neg e3]; exact ⟨Or.inl ⟨by omega, by omega, rfl⟩, trivial⟩
/-- what the reader does with a character -/
def acR (m : gM) (b f l h c : Nat) (r : Int32 × gM) : Prop := (dst b f l h c = none ∧ r = (0, m)) ∨ ∃ b' f' l' h', dst b f l h c = some (b', f', l', h') ∧ r.1 = 1 ∧ rdS r.2 b' f' l' h'
theorem acceptsLast_1 (m : gM) (x : Int32) : f_d_acceptsLast m x 1 = (1, g_set (g_set m 0 (upd (m 0) 2 x)) 0 (upd ((g_set m 0 (upd (m 0) 2 x)) 0) 0 3)) ∧ o_d_acceptsLast m x 1 := by
  have n10 : ¬ ((1 : Int32) = 0) := by decide
  unfold f_d_acceptsLast o_d_acceptsLast
  rw [if_neg n10, if_neg n10]
  simp only [g_let_def, (goesOn_1 _ _).1]
  exact ⟨trivial, (goesOn_1 _ _).2, Or.inr trivial, trivial⟩
theorem acceptsLast_0 (m : gM) (x : Int32) : f_d_acceptsLast m x 0 = (0, m) ∧ o_d_acceptsLast m x 0 := by
  unfold f_d_acceptsLast o_d_acceptsLast
  rw [if_pos rfl, if_pos rfl]
  exact ⟨rfl, trivial⟩
theorem nI_mul10 (a : Nat) : Int32.ofNat a * (10 : Int32) = Int32.ofNat (10 * a) := by rw [show (10 : Int32) = Int32.ofNat 10 from rfl, nI_times, Nat.mul_comm]
theorem acceptsDigit_d {m : gM} {b f l h d : Nat} (hr : rdR m b f l h) (hv : vS b f l h) (hd : d < 10) : acR m b f l h (48 + d) (f_d_acceptsDigit m (Int32.ofNat d)) ∧ o_d_acceptsDigit m (Int32.ofNat d) := by
  obtain ⟨v1, v2, v3, v4, v5, v6, v7⟩ := hv
  obtain ⟨r0, r1⟩ := hr
  have hc : 48 ≤ 48 + d ∧ 48 + d ≤ 57 := by omega
  have hcd : 48 + d - 48 = d := by omega
  unfold acR dst f_d_acceptsDigit o_d_acceptsDigit
  simp only [g_let_def, if_pos hc, hcd, r0]
  have n10 : ¬ ((1 : Int32) = 0) := by decide
  match b, v1, r1 with
  | 0, _, _ =>
    have e0 : Int32.ofNat 0 = (0 : Int32) := rfl
    simp only [if_pos e0, if_true, (goesOn_1 _ _).1]
    exact ⟨Or.inr ⟨1, d, d, 0, rfl, trivial, rfl, rfl, rfl, rfl⟩, (goesOn_1 _ _).2, Or.inr trivial, trivial⟩
  | 1, _, r1 =>
    obtain ⟨q1, q2, q3⟩ := r1 (by omega)
    have e0 : ¬ (Int32.ofNat 1 = (0 : Int32)) := by decide
    have e1 : Int32.ofNat 1 = (1 : Int32) := rfl
    have b0 : ¬ (1 = 0) := by omega
    simp only [if_neg e0, if_pos e1, if_neg b0, if_true, q1, nI_mul10, nI_plus2]
    obtain ⟨g1, g2⟩ := mayGrow_d (f := f) (by omega)
    unfold f_d_acceptsFirst o_d_acceptsFirst
    rw [q1]
    rcases g1 with ⟨w1, w2, w3⟩ | ⟨w1, w3⟩
    · have w4 : ¬ (f_d_mayGrow (Int32.ofNat f) = 0) := by rw [w3]; exact n10
      simp only [if_neg w4, if_pos (And.intro w1 w2), g_let_def]
      exact ⟨Or.inr ⟨1, 10 * f + d, 10 * f + d, h, rfl, trivial, r0, rfl, rfl, q3⟩, ⟨g2, trivial⟩, Or.inr trivial, trivial⟩
    · simp only [if_pos w3, if_neg w1]
      exact ⟨Or.inl ⟨trivial, trivial⟩, ⟨g2, trivial⟩, Or.inl trivial, trivial⟩
  | 2, _, r1 =>
    obtain ⟨q1, q2, q3⟩ := r1 (by omega)
    have e0 : ¬ (Int32.ofNat 2 = (0 : Int32)) := by decide
    have e1 : ¬ (Int32.ofNat 2 = (1 : Int32)) := by decide
    have e2 : Int32.ofNat 2 = (2 : Int32) := rfl
    have b0 : ¬ (2 = 0) := by omega
    have b1 : ¬ (2 = 1) := by omega
    have e9 : Int32.ofNat (10 * d) + (9 : Int32) = Int32.ofNat (10 * d + 9) := nI_plus2 _ 9
    simp only [if_neg e0, if_neg e1, if_pos e2, if_neg b0, if_neg b1, if_true, q1, nI_mul10, e9]
    obtain ⟨g1, g2⟩ := mayGrow_d (f := d) (by omega)
    have kl := ltI (a := f) (b := d) (by omega) (by omega)
    have k9 := leI (a := 10 * d + 9) (b := f) (by omega) (by omega)
    by_cases w : f < d
    · simp only [if_pos (kl.mpr w), if_pos (show f < d ∨ (1 ≤ d ∧ d ≤ 3 ∧ f < 10 * d + 9) from Or.inl w), (acceptsLast_1 _ _).1]
      exact ⟨Or.inr ⟨3, f, d, h, rfl, trivial, rfl, q1, rfl, q3⟩, (acceptsLast_1 _ _).2, Or.inr trivial, trivial⟩
    · simp only [if_neg (fun z => w (kl.mp z))]
      rcases g1 with ⟨w1, w2, w3⟩ | ⟨w1, w3⟩
      · have w4 : ¬ (f_d_mayGrow (Int32.ofNat d) = 0) := by rw [w3]; exact n10
        by_cases w9 : 10 * d + 9 ≤ f
        · simp only [if_neg w4, if_pos (k9.mpr w9), if_neg (show ¬ (f < d ∨ (1 ≤ d ∧ d ≤ 3 ∧ f < 10 * d + 9)) by omega), (acceptsLast_0 _ _).1]
          exact ⟨Or.inl ⟨trivial, trivial⟩, g2, (acceptsLast_0 _ _).2, Or.inl trivial, trivial⟩
        · simp only [if_neg w4, if_neg (fun z => w9 (k9.mp z)), if_pos (show f < d ∨ (1 ≤ d ∧ d ≤ 3 ∧ f < 10 * d + 9) by omega), (acceptsLast_1 _ _).1]
          exact ⟨Or.inr ⟨3, f, d, h, rfl, trivial, rfl, q1, rfl, q3⟩, g2, (acceptsLast_1 _ _).2, Or.inr trivial, trivial⟩
      · simp only [if_pos w3, if_neg (show ¬ (f < d ∨ (1 ≤ d ∧ d ≤ 3 ∧ f < 10 * d + 9)) by omega), (acceptsLast_0 _ _).1]
        exact ⟨Or.inl ⟨trivial, trivial⟩, g2, (acceptsLast_0 _ _).2, Or.inl trivial, trivial⟩
  | 3, _, r1 =>
    obtain ⟨q1, q2, q3⟩ := r1 (by omega)
    have e0 : ¬ (Int32.ofNat 3 = (0 : Int32)) := by decide
    have e1 : ¬ (Int32.ofNat 3 = (1 : Int32)) := by decide
    have e2 : ¬ (Int32.ofNat 3 = (2 : Int32)) := by decide
    have e3 : Int32.ofNat 3 = (3 : Int32) := rfl
    have b0 : ¬ (3 = 0) := by omega
    have b1 : ¬ (3 = 1) := by omega
    have b2 : ¬ (3 = 2) := by omega
    simp only [if_neg e0, if_neg e1, if_neg e2, if_pos e3, if_neg b0, if_neg b1, if_neg b2, if_true, q1, q2, nI_mul10, nI_plus2]
    obtain ⟨g1, g2⟩ := mayGrow_d (f := l) (by omega)
    have k9 := leI (a := 10 * l + d) (b := f) (by omega) (by omega)
    rcases g1 with ⟨w1, w2, w3⟩ | ⟨w1, w3⟩
    · have w4 : ¬ (f_d_mayGrow (Int32.ofNat l) = 0) := by rw [w3]; exact n10
      by_cases w9 : 10 * l + d ≤ f
      · simp only [if_neg w4, if_pos (k9.mpr w9), if_neg (show ¬ (1 ≤ l ∧ l ≤ 3 ∧ f < 10 * l + d) by omega), (acceptsLast_0 _ _).1]
        exact ⟨Or.inl ⟨trivial, trivial⟩, g2, (acceptsLast_0 _ _).2, Or.inl trivial, trivial⟩
      · simp only [if_neg w4, if_neg (fun z => w9 (k9.mp z)), if_pos (show (1 ≤ l ∧ l ≤ 3 ∧ f < 10 * l + d) by omega), (acceptsLast_1 _ _).1]
        exact ⟨Or.inr ⟨3, f, 10 * l + d, h, rfl, trivial, rfl, q1, rfl, q3⟩, g2, (acceptsLast_1 _ _).2, Or.inr trivial, trivial⟩
    · simp only [if_pos w3, if_neg (show ¬ (1 ≤ l ∧ l ≤ 3 ∧ f < 10 * l + d) by omega), (acceptsLast_0 _ _).1]
      exact ⟨Or.inl ⟨trivial, trivial⟩, g2, (acceptsLast_0 _ _).2, Or.inl trivial, trivial⟩
  | 4, _, r1 =>
    obtain ⟨q1, q2, q3⟩ := r1 (by omega)
    have e0 : ¬ (Int32.ofNat 4 = (0 : Int32)) := by decide
    have e1 : ¬ (Int32.ofNat 4 = (1 : Int32)) := by decide
    have e2 : ¬ (Int32.ofNat 4 = (2 : Int32)) := by decide
    have e3 : ¬ (Int32.ofNat 4 = (3 : Int32)) := by decide
    have e4 : Int32.ofNat 4 = (4 : Int32) := rfl
    have b0 : ¬ (4 = 0) := by omega
    have b1 : ¬ (4 = 1) := by omega
    have b2 : ¬ (4 = 2) := by omega
    have b3 : ¬ (4 = 3) := by omega
    simp only [if_neg e0, if_neg e1, if_neg e2, if_neg e3, if_pos e4, if_neg b0, if_neg b1, if_neg b2, if_neg b3, if_true]
    unfold f_d_acceptsHint o_d_acceptsHint
    have k4 := ltI (a := d) (b := 4) (by omega) (by omega)
    by_cases w : d < 4
    · have w' : Int32.ofNat d < (4 : Int32) := k4.mpr w
      simp only [if_pos w', if_pos w, g_let_def, (goesOn_1 _ _).1]
      exact ⟨Or.inr ⟨5, f, l, d, rfl, trivial, rfl, q1, q2, rfl⟩, ⟨(goesOn_1 _ _).2, Or.inr trivial, trivial⟩, Or.inr trivial, trivial⟩
    · have w' : ¬ (Int32.ofNat d < (4 : Int32)) := fun z => w (k4.mp z)
      simp only [if_neg w', if_neg w]
      exact ⟨Or.inl ⟨trivial, trivial⟩, trivial, Or.inl trivial, trivial⟩
  | 5, _, _ =>
    have e0 : ¬ (Int32.ofNat 5 = (0 : Int32)) := by decide
    have e1 : ¬ (Int32.ofNat 5 = (1 : Int32)) := by decide
    have e2 : ¬ (Int32.ofNat 5 = (2 : Int32)) := by decide
    have e3 : ¬ (Int32.ofNat 5 = (3 : Int32)) := by decide
    have e4 : ¬ (Int32.ofNat 5 = (4 : Int32)) := by decide
    have b0 : ¬ (5 = 0) := by omega
    have b1 : ¬ (5 = 1) := by omega
    have b2 : ¬ (5 = 2) := by omega
    have b3 : ¬ (5 = 3) := by omega
    have b4 : ¬ (5 = 4) := by omega
    simp only [if_neg e0, if_neg e1, if_neg e2, if_neg e3, if_neg e4, if_neg b0, if_neg b1, if_neg b2, if_neg b3, if_neg b4]
    exact ⟨Or.inl ⟨trivial, trivial⟩, trivial⟩
  | n + 6, z, _ => omega
