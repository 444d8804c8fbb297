/-! what holds of the reference's row (by its fields), and of a Store's picture beside it -/
def bN (A : gM) (k : Nat) : Nat := if A 0 k = -1 then 0 else 1
def vd (A : gM) (k : Nat) : Nat := if A 0 k = -1 then 0 else if A 1 (A 0 k).toNatClampNeg = Int32.ofNat k then 1 else 0
def cN (A : gM) (b : Nat) : Nat := sS 8 (fun j => bN A (8 * b + j))
def vL (A : gM) (b : Nat) : Nat := sS 8 (fun j => vd A (8 * b + j))
def wN (A : gM) (p : Nat) : Nat := if A 1 p = -1 then 0 else 1
def sN (A : gM) (x : Int32) (b : Nat) : Nat := if A 6 b = x then 1 else 0
def oN (A : gM) (s : Nat) : Nat := if A 10 s = -1 then 0 else 1
def frN (A : gM) : Nat := sS 12 (sN A 0)
def jA (A : gM) : Prop := ∀ k, k < 96 → A 0 k = -1 ∨ ∃ p, p < 40 ∧ A 0 k = Int32.ofNat p
def jB (A : gM) : Prop := ∀ p, p < 40 → A 1 p = -1 ∨ ∃ k, k < 96 ∧ A 1 p = Int32.ofNat k ∧ A 0 k = Int32.ofNat p
def jH (xp : Nat) (A : gM) : Prop := ∀ p, p < 40 → (A 1 p ≠ -1 → ∃ h, h < 4 ∧ A 2 p = Int32.ofNat h) ∧ (p ≠ xp → A 1 p = -1 → A 2 p = -1)
def jC (xb : Nat) (A : gM) : Prop := ∀ b, b < 12 → (∀ j, j < 8 → (A 0 (8 * b + j) = -1 ↔ cN A b ≤ j)) ∧ ((cN A b = 0 ∧ A 6 b = 0 ∧ A 7 b = -1) ∨ ((b = xb ∨ (0 < cN A b ∧ cN A b < 8)) ∧ A 6 b = 1 ∧ ∃ s, s < 5 ∧ A 7 b = Int32.ofNat s ∧ A 10 s = Int32.ofNat b) ∨ (cN A b = 8 ∧ A 6 b = 2 ∧ ∃ s, s < 5 ∧ A 7 b = Int32.ofNat s))
def jD (A : gM) : Prop := ∀ s, s < 5 → A 10 s = -1 ∨ ∃ b, b < 12 ∧ A 10 s = Int32.ofNat b ∧ A 6 b = 1 ∧ A 7 b = Int32.ofNat s
def jE (A : gM) : Prop := sS 12 (vL A) = sS 40 (wN A)
def jF (A : gM) : Prop := sS 12 (sN A 1) = sS 5 (oN A)
def jG (e t : Nat) (A : gM) : Prop := (∀ b, b < 12 → ∃ x, x ≤ e ∧ A 8 b = Int32.ofNat x) ∧ (∀ b, b < 12 → ∃ x, x ≤ t ∧ A 9 b = Int32.ofNat x) ∧ ∃ u, u ≤ t ∧ A 13 5 = Int32.ofNat u
def jI (A : gM) : Prop := (∀ b, b < 12 → A 6 b = 2 → ∃ x u, x < u ∧ u < 2147483648 ∧ A 9 b = Int32.ofNat x ∧ A 13 5 = Int32.ofNat u) ∧ ∀ b b', b < 12 → b' < 12 → A 6 b = 2 → A 6 b' = 2 → A 9 b = A 9 b' → b = b'
def jS (A : gM) : Prop := (A 13 0 = 0 ∨ A 13 0 = 1 ∨ A 13 0 = 2) ∧ (A 13 1 = 2 ∨ A 13 1 = 3 ∨ A 13 1 = 4)
def jV (e t xb xp : Nat) (A : gM) : Prop := jA A ∧ jB A ∧ jH xp A ∧ jC xb A ∧ jD A ∧ jE A ∧ jF A ∧ jG e t A ∧ jI A ∧ jS A
def jR (m A : gM) : Prop :=
  (∀ p, p < 40 → m 1 p = A 1 p ∧ (A 2 p ≠ -1 → m 2 p = A 2 p) ∧ m 3 p = A 3 p ∧ m 4 p = A 4 p ∧ m 5 p = A 5 p) ∧
  (∀ k, k < 96 → m 6 k = A 0 k) ∧
  (∀ b, b < 12 → m 7 b = A 7 b ∧ m 8 b = Int32.ofNat (cN A b) ∧ m 9 b = Int32.ofNat (vL A b) ∧ m 10 b = A 8 b ∧ m 11 b = A 9 b) ∧
  (∀ s, s < 5 → m 12 s = A 10 s ∧ m 13 s = A 11 s) ∧
  ((∀ h, h < 4 → m 14 h = A 12 h) ∧ m 14 4 = 0) ∧
  m 15 0 = A 13 0 ∧ m 15 1 = A 13 1 ∧ m 0 15 = Int32.ofNat (frN A) ∧ m 0 16 = A 13 5
theorem bN_le (A : gM) (k : Nat) : bN A k ≤ 1 := by unfold bN; split <;> omega
theorem vd_le (A : gM) (k : Nat) : vd A k ≤ bN A k := by
  unfold vd bN; split
  · omega
  · split <;> omega
theorem cN_le (A : gM) (b : Nat) : cN A b ≤ 8 := by
  have := sS_le (f := fun j => bN A (8 * b + j)) (c := 1) 8 (fun i _ => bN_le A _)
  unfold cN; omega
theorem vL_le (A : gM) (b : Nat) : vL A b ≤ cN A b := sS_mono 8 (fun i _ => vd_le A _)
theorem wN_le (A : gM) (p : Nat) : wN A p ≤ 1 := by unfold wN; split <;> omega
theorem sN_le (A : gM) (x : Int32) (b : Nat) : sN A x b ≤ 1 := by unfold sN; split <;> omega
theorem oN_le (A : gM) (s : Nat) : oN A s ≤ 1 := by unfold oN; split <;> omega
theorem frN_le (A : gM) : frN A ≤ 12 := by
  have := sS_le (f := sN A 0) (c := 1) 12 (fun i _ => sN_le A 0 i)
  unfold frN; omega
/-- every block is in one of three states -/
theorem jC_states {xb : Nat} {A : gM} (h : jC xb A) : sS 12 (sN A 0) + sS 12 (sN A 1) + sS 12 (sN A 2) = 12 := by
  have h1 : sS 12 (fun b => sN A 0 b + sN A 1 b + sN A 2 b) = 12 := by
    rw [sS_c (g := fun _ => 1) 12 (fun b hb => ?_)]
    · decide
    · unfold sN
      rcases (h b hb).2 with ⟨_, h1, _⟩ | ⟨_, h1, _⟩ | ⟨_, h1, _⟩ <;> rw [h1] <;> decide
  have h2 := sS_add (fun b => sN A 0 b + sN A 1 b) (sN A 2) 12
  have h3 := sS_add (sN A 0) (sN A 1) 12
  omega
/-- where no shut block has an old slot, two blocks are free -/
theorem two_free {e t xb xp : Nat} {A : gM} (h : jV e t xb xp A) (hv : ∀ b, b < 12 → A 6 b = 2 → vL A b = 8) : 2 ≤ frN A := by
  obtain ⟨-, -, -, hc, -, he, hf, -, -, -⟩ := h
  have h1 := jC_states hc
  have h2 : sS 12 (fun b => 8 * sN A 2 b) ≤ sS 12 (vL A) := sS_mono 12 (fun b hb => by
    unfold sN
    split
    · rename_i q; rw [hv b hb q]; omega
    · omega)
  rw [sS_mul] at h2
  have h3 : sS 40 (wN A) ≤ 40 := by
    have := sS_le (f := wN A) (c := 1) 40 (fun i _ => wN_le A i); omega
  have h4 : sS 5 (oN A) ≤ 5 := by
    have := sS_le (f := oN A) (c := 1) 5 (fun i _ => oN_le A i); omega
  unfold jE at he
  unfold jF at hf
  unfold frN
  omega
/-! the small steps -/
def sOp (A : gM) (s b : Nat) : gM := g_set (g_set (g_set A 10 (upd (A 10) s (Int32.ofNat b))) 6 (upd (A 6) b 1)) 7 (upd (A 7) b (Int32.ofNat s))
def sFg (A : gM) (p : Nat) : gM := g_set A 1 (upd (A 1) p (-1))
def sPl (A : gM) (p q : Nat) : gM := g_set (g_set A 0 (upd (A 0) q (Int32.ofNat p))) 1 (upd (A 1) p (Int32.ofNat q))
def sIn (A : gM) (f i : Nat) (x : Int32) : gM := g_set A f (upd (A f) i x)
def sCl (A : gM) (b s : Nat) : gM := g_set (g_set (g_set (g_set A 6 (upd (A 6) b 2)) 9 (upd (A 9) b (A 13 5))) 13 (upd (A 13) 5 (A 13 5 + 1))) 10 (upd (A 10) s (-1))
theorem bN_c {A A' : gM} (h : A' 0 = A 0) : bN A' = bN A := by funext k; unfold bN; rw [h]
theorem cN_c {A A' : gM} (h : A' 0 = A 0) : cN A' = cN A := by funext b; unfold cN; rw [bN_c h]
theorem vd_c {A A' : gM} (h : A' 0 = A 0) (h1 : A' 1 = A 1) : vd A' = vd A := by funext k; unfold vd; rw [h, h1]
theorem vL_c {A A' : gM} (h : A' 0 = A 0) (h1 : A' 1 = A 1) : vL A' = vL A := by funext b; unfold vL; rw [vd_c h h1]
theorem wN_c {A A' : gM} (h : A' 1 = A 1) : wN A' = wN A := by funext k; unfold wN; rw [h]
theorem sN_c {A A' : gM} (h : A' 6 = A 6) : sN A' = sN A := by funext x k; unfold sN; rw [h]
theorem oN_c {A A' : gM} (h : A' 10 = A 10) : oN A' = oN A := by funext k; unfold oN; rw [h]
theorem frN_c {A A' : gM} (h : A' 6 = A 6) : frN A' = frN A := by unfold frN; rw [sN_c h]
theorem jC_c {xb : Nat} {A A' : gM} (h0 : A' 0 = A 0) (h6 : A' 6 = A 6) (h7 : A' 7 = A 7) (h10 : A' 10 = A 10) (h : jC xb A) : jC xb A' := by
  unfold jC; rw [h0, h6, h7, h10, cN_c h0]; exact h
/-- jV speaks of these fields alone -/
theorem jV_c {e t xb xp : Nat} {A A' : gM} (h0 : A' 0 = A 0) (h1 : A' 1 = A 1) (h2 : A' 2 = A 2) (h6 : A' 6 = A 6) (h7 : A' 7 = A 7) (h8 : A' 8 = A 8) (h9 : A' 9 = A 9) (h10 : A' 10 = A 10) (h13 : A' 13 5 = A 13 5) (hs : jS A') (h : jV e t xb xp A) : jV e t xb xp A' := by
  obtain ⟨ha, hb, hh, hc, hd, he, hf, hg, hi, -⟩ := h
  refine ⟨?_, ?_, ?_, jC_c h0 h6 h7 h10 hc, ?_, ?_, ?_, ?_, ?_, hs⟩
  · unfold jA; rw [h0]; exact ha
  · unfold jB; rw [h0, h1]; exact hb
  · unfold jH; rw [h1, h2]; exact hh
  · unfold jD; rw [h6, h7, h10]; exact hd
  · unfold jE; rw [vL_c h0 h1, wN_c h1]; exact he
  · unfold jF; rw [sN_c h6, oN_c h10]; exact hf
  · unfold jG; rw [h8, h9, h13]; exact hg
  · unfold jI; rw [h6, h9, h13]; exact hi
theorem jV_up {e t e' t' xb xp : Nat} {A : gM} (h : jV e t xb xp A) (he : e ≤ e') (ht : t ≤ t') : jV e' t' xb xp A := by
  obtain ⟨h1, h2, h3, h4, h5, h6, h7, ⟨g1, g2, g3⟩, h8⟩ := h
  refine ⟨h1, h2, h3, h4, h5, h6, h7, ⟨fun b hb => ?_, fun b hb => ?_, ?_⟩, h8⟩
  · obtain ⟨x, hx, hq⟩ := g1 b hb; exact ⟨x, by omega, hq⟩
  · obtain ⟨x, hx, hq⟩ := g2 b hb; exact ⟨x, by omega, hq⟩
  · obtain ⟨x, hx, hq⟩ := g3; exact ⟨x, by omega, hq⟩
theorem jH_x {A : gM} (p : Nat) (h : jH 99 A) : jH p A := fun q hq => ⟨(h q hq).1, fun _ => (h q hq).2 (by omega)⟩
theorem jC_x {A : gM} (b : Nat) (h : jC 99 A) : jC b A := fun q hq => ⟨(h q hq).1, by
  rcases (h q hq).2 with h1 | ⟨h1 | h1, h2⟩ | h1
  · exact Or.inl h1
  · omega
  · exact Or.inr (Or.inl ⟨Or.inr h1, h2⟩)
  · exact Or.inr (Or.inr h1)⟩
theorem jC_fin {A : gM} {b : Nat} (h : jC b A) (hq : b < 12 → A 6 b = 1 → 0 < cN A b ∧ cN A b < 8) : jC 99 A := fun q hb => ⟨(h q hb).1, by
  rcases (h q hb).2 with h1 | ⟨h1 | h1, h2⟩ | h1
  · exact Or.inl h1
  · subst h1; exact Or.inr (Or.inl ⟨Or.inr (hq hb h2.1), h2⟩)
  · exact Or.inr (Or.inl ⟨Or.inr h1, h2⟩)
  · exact Or.inr (Or.inr h1)⟩
