/-! a page is programmed, in the reference's row -/
theorem e81 (b : Nat) : Int32.ofNat (b + 8) - (1 : Int32) = Int32.ofNat (b + 7) := nI_pred (b + 7)
theorem prog58 {m : gM} {a1 a2 z : Int32} {b n : Nat} (hb : b < 12) (hn : n < 8) (h : ∀ j, j < 8 → (aR m 0 (8 * b + j) = -1 ↔ n ≤ j)) : rOk (L_r_programs_58 m a1 a2 z) (K_r_programs_58 m a1 a2 z) 400 (Int32.ofNat (8 * b)) ∧ run (L_r_programs_58 m a1 a2 z) 400 (Int32.ofNat (8 * b)) = Int32.ofNat (8 * b + n) := by
  refine run_count (N := n) (fun k z => z = Int32.ofNat (8 * b + k)) (fun z => z = Int32.ofNat (8 * b + n)) (by omega) rfl (fun k z hk hz => ?_) (fun z hz => ?_)
  · subst hz
    have hne : ¬ (aR m 0 (8 * b + k) = -1) := fun w => by have := (h k (by omega)).mp w; omega
    unfold L_r_programs_58 K_r_programs_58
    simp only [g_let_def, rg0 (show 8 * b + k < 96 by omega), if_neg hne]
    exact ⟨⟨ro0 (by omega), trivial⟩, trivial, e1r _⟩
  · subst hz
    have hne : aR m 0 (8 * b + n) = -1 := (h n hn).mpr (Nat.le_refl _)
    unfold L_r_programs_58 K_r_programs_58
    simp only [g_let_def, rg0 (show 8 * b + n < 96 by omega), if_pos hne]
    exact ⟨⟨ro0 (by omega), trivial⟩, trivial, trivial⟩
def prA (A : gM) (p s b : Nat) : gM := if cN A b = 7 then sCl (sIn (sPl A p (8 * b + cN A b)) 11 s (A 11 s + 1)) b s else sIn (sPl A p (8 * b + cN A b)) 11 s (A 11 s + 1)
theorem programs_A1 {m : gM} {p s b : Nat} (hp : p < 40) (hs : s < 5) (hb : b < 12) (h10 : aR m 10 s = Int32.ofNat b) (hc : ∀ j, j < 8 → (aR m 0 (8 * b + j) = -1 ↔ cN (aR m) b ≤ j)) (h8 : cN (aR m) b < 8) : aR (f_r_programs m (Int32.ofNat p) (Int32.ofNat s)) = prA (aR m) p s b ∧ o_r_programs m (Int32.ofNat p) (Int32.ofNat s) := by
  obtain ⟨k1, k2⟩ := prog58 (m := m) (a1 := Int32.ofNat p) (a2 := Int32.ofNat s) (z := Int32.ofNat b) hb h8 hc
  have hne : ¬ (m 0 (((344 : Int32) + ((2 : Int32) * Int32.ofNat s))).toNatClampNeg = -1) := by rw [rg10 (m := m) hs, h10]; exact nI_ne1 (by omega)
  have hq : 8 * b + cN (aR m) b < 96 := by omega
  unfold prA
  generalize hn : cN (aR m) b = n at *
  unfold f_r_programs o_r_programs
  rw [if_neg hne, if_neg hne]
  simp only [g_let_def, rg10 hs, h10, e8l, e8p, e81, k2]
  by_cases h7 : n = 7
  · subst h7
    rw [if_pos rfl, if_pos rfl, if_pos rfl]
    refine ⟨?_, ro10 hs, ro10 hs, k1, ro0 hq, ro1 hp, ro11 hs, ro11 hs, ro6 hb, ro9 hb, ro10 hs, trivial⟩
    simp only [rs10 hs, rs13_5, rs9 hb, rs6 hb, rs11 hs, rs1 hp, rs0 hq, rg11 hs, rg13_5]
    rfl
  · have hx : ¬ (Int32.ofNat (8 * b + n) = Int32.ofNat (8 * b + 7)) := fun w => h7 (by have := nI_inj (by omega) (by omega) w; omega)
    rw [if_neg hx, if_neg hx, if_neg h7]
    refine ⟨?_, ro10 hs, ro10 hs, k1, ro0 hq, ro1 hp, ro11 hs, ro11 hs, trivial⟩
    simp only [rs11 hs, rs1 hp, rs0 hq, rg11 hs]
    rfl
def z30 (m : gM) (s b : Int32) : gM := g_set (g_set (g_set m 0 (upd (m 0) (((344 : Int32) + ((2 : Int32) * s))).toNatClampNeg b)) 0 (upd ((g_set m 0 (upd (m 0) (((344 : Int32) + ((2 : Int32) * s))).toNatClampNeg b)) 0) (((96 : Int32) + b)).toNatClampNeg 1)) 0 (upd ((g_set (g_set m 0 (upd (m 0) (((344 : Int32) + ((2 : Int32) * s))).toNatClampNeg b)) 0 (upd ((g_set m 0 (upd (m 0) (((344 : Int32) + ((2 : Int32) * s))).toNatClampNeg b)) 0) (((96 : Int32) + b)).toNatClampNeg 1)) 0) (((108 : Int32) + b)).toNatClampNeg s)
theorem z30_A {m : gM} {s b : Nat} (hs : s < 5) (hb : b < 12) : aR (z30 m (Int32.ofNat s) (Int32.ofNat b)) = sOp (aR m) s b := by
  unfold z30
  rw [rs7 hb, rs6 hb, rs10 hs]
  rfl
theorem programs_A2 {m : gM} {p s b : Nat} (hs : s < 5) (hb : b < 12) (h10 : aR m 10 s = -1) (hf : fB0 (aR m) = Int32.ofNat b) : f_r_programs m (Int32.ofNat p) (Int32.ofNat s) = f_r_programs (z30 m (Int32.ofNat s) (Int32.ofNat b)) (Int32.ofNat p) (Int32.ofNat s) ∧ (o_r_programs (z30 m (Int32.ofNat s) (Int32.ofNat b)) (Int32.ofNat p) (Int32.ofNat s) → o_r_programs m (Int32.ofNat p) (Int32.ofNat s)) := by
  have hpos : m 0 (((344 : Int32) + ((2 : Int32) * Int32.ofNat s))).toNatClampNeg = -1 := by rw [rg10 (m := m) hs, h10]
  have hz : aR (z30 m (Int32.ofNat s) (Int32.ofNat b)) 10 s = Int32.ofNat b := by
    rw [z30_A hs hb]; show upd (aR m 10) s (Int32.ofNat b) s = _; rw [upd_at, if_pos rfl]
  have hne : ¬ ((z30 m (Int32.ofNat s) (Int32.ofNat b)) 0 (((344 : Int32) + ((2 : Int32) * Int32.ofNat s))).toNatClampNeg = -1) := by rw [rg10 (m := z30 m (Int32.ofNat s) (Int32.ofNat b)) hs, hz]; exact nI_ne1 (by omega)
  obtain ⟨f1, f2⟩ := freshBlock_A (m := m)
  constructor
  · rw [f_r_programs.eq_1 m, f_r_programs.eq_1 (z30 _ _ _), if_pos hpos, if_neg hne]
    simp only [g_let_def, f1, hf]
    rfl
  · intro h
    rw [o_r_programs.eq_1] at h ⊢
    rw [if_neg hne] at h
    rw [if_pos hpos]
    simp only [g_let_def, f1, hf] at h ⊢
    exact ⟨ro10 hs, f2, ro10 hs, ro6 hb, ro7 hb, h.2⟩
