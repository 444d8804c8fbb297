/-! copies of a page are counted -/
theorem gM_ext {X Y : gM} (h : ∀ f, f < 16 → X f = Y f) (h' : ∀ f, 16 ≤ f → X f = Y f) : X = Y := by
  funext f
  by_cases q : f < 16
  · exact h f q
  · exact h' f (by omega)
def sBm (A : gM) (p h : Nat) : gM := sIn (sIn (sIn A 4 p (A 4 p + 1)) 5 p (A 5 p + 1)) 12 h (A 12 h + 1)
theorem prA_sBm (A : gM) (p h s b : Nat) : prA (sBm A p h) p s b = sBm (prA A p s b) p h := by
  have hc : cN (sBm A p h) = cN A := cN_c rfl
  unfold prA
  rw [hc]
  by_cases h7 : cN A b = 7
  · simp only [if_pos h7]
    refine gM_ext (fun f hf => ?_) (fun f hf => ?_)
    · match f, hf with
      | 0, _ => rfl
      | 1, _ => rfl
      | 2, _ => rfl
      | 3, _ => rfl
      | 4, _ => rfl
      | 5, _ => rfl
      | 6, _ => rfl
      | 7, _ => rfl
      | 8, _ => rfl
      | 9, _ => rfl
      | 10, _ => rfl
      | 11, _ => rfl
      | 12, _ => rfl
      | 13, _ => rfl
      | 14, _ => rfl
      | 15, _ => rfl
      | n + 16, h => omega
    · simp only [sCl, sIn, sPl, sBm, g_set_at, if_neg (show ¬ f = 0 by omega), if_neg (show ¬ f = 1 by omega), if_neg (show ¬ f = 4 by omega), if_neg (show ¬ f = 5 by omega), if_neg (show ¬ f = 6 by omega), if_neg (show ¬ f = 7 by omega), if_neg (show ¬ f = 9 by omega), if_neg (show ¬ f = 10 by omega), if_neg (show ¬ f = 11 by omega), if_neg (show ¬ f = 12 by omega), if_neg (show ¬ f = 13 by omega)]
  · simp only [if_neg h7]
    refine gM_ext (fun f hf => ?_) (fun f hf => ?_)
    · match f, hf with
      | 0, _ => rfl
      | 1, _ => rfl
      | 2, _ => rfl
      | 3, _ => rfl
      | 4, _ => rfl
      | 5, _ => rfl
      | 6, _ => rfl
      | 7, _ => rfl
      | 8, _ => rfl
      | 9, _ => rfl
      | 10, _ => rfl
      | 11, _ => rfl
      | 12, _ => rfl
      | 13, _ => rfl
      | 14, _ => rfl
      | 15, _ => rfl
      | n + 16, h => omega
    · simp only [sIn, sPl, sBm, g_set_at, if_neg (show ¬ f = 0 by omega), if_neg (show ¬ f = 1 by omega), if_neg (show ¬ f = 4 by omega), if_neg (show ¬ f = 5 by omega), if_neg (show ¬ f = 6 by omega), if_neg (show ¬ f = 7 by omega), if_neg (show ¬ f = 9 by omega), if_neg (show ¬ f = 10 by omega), if_neg (show ¬ f = 11 by omega), if_neg (show ¬ f = 12 by omega), if_neg (show ¬ f = 13 by omega)]
theorem sOp_sBm (A : gM) (p h s b : Nat) : sOp (sBm A p h) s b = sBm (sOp A s b) p h := by
  refine gM_ext (fun f hf => ?_) (fun f hf => ?_)
  · match f, hf with
    | 0, _ => rfl
    | 1, _ => rfl
    | 2, _ => rfl
    | 3, _ => rfl
    | 4, _ => rfl
    | 5, _ => rfl
    | 6, _ => rfl
    | 7, _ => rfl
    | 8, _ => rfl
    | 9, _ => rfl
    | 10, _ => rfl
    | 11, _ => rfl
    | 12, _ => rfl
    | 13, _ => rfl
    | 14, _ => rfl
    | 15, _ => rfl
    | n + 16, h => omega
  · simp only [sOp, sIn, sBm, g_set_at, if_neg (show ¬ f = 0 by omega), if_neg (show ¬ f = 1 by omega), if_neg (show ¬ f = 4 by omega), if_neg (show ¬ f = 5 by omega), if_neg (show ¬ f = 6 by omega), if_neg (show ¬ f = 7 by omega), if_neg (show ¬ f = 9 by omega), if_neg (show ¬ f = 10 by omega), if_neg (show ¬ f = 11 by omega), if_neg (show ¬ f = 12 by omega), if_neg (show ¬ f = 13 by omega)]
theorem pgA_sBm (A : gM) (p h s : Nat) : pgA (sBm A p h) p s = sBm (pgA A p s) p h := by
  have h10 : sBm A p h 10 = A 10 := rfl
  have hf : fB0 (sBm A p h) = fB0 A := rfl
  unfold pgA
  rw [h10, hf]
  by_cases q : A 10 s = -1
  · rw [if_pos q, if_pos q, sOp_sBm, prA_sBm]
  · rw [if_neg q, if_neg q, prA_sBm]
def mBm (m : gM) (p h : Nat) : gM := g_set (g_set (g_set m 4 (upd (m 4) p (m 4 p + 1))) 5 (upd (m 5) p (m 5 p + 1))) 14 (upd (m 14) h (m 14 h + 1))
theorem jR_sBm {m A : gM} {p h : Nat} (hR : jR m A) (hp : p < 40) (hh : h < 4) : jR (mBm m p h) (sBm A p h) := by
  obtain ⟨R1, R2, R3, R4, ⟨R5, R50⟩, R6, R7, R8, R9⟩ := hR
  refine ⟨fun q hq => ?_, R2, ?_, R4, ⟨fun q hq => ?_, ?_⟩, R6, R7, R8, R9⟩
  · obtain ⟨a1, a2, a3, a4, a5⟩ := R1 q hq
    refine ⟨a1, a2, a3, ?_, ?_⟩
    · show upd (m 4) p (m 4 p + 1) q = upd (A 4) p (A 4 p + 1) q
      rw [upd_at, upd_at, a4, (R1 p hp).2.2.2.1]
    · show upd (m 5) p (m 5 p + 1) q = upd (A 5) p (A 5 p + 1) q
      rw [upd_at, upd_at, a5, (R1 p hp).2.2.2.2]
  · rw [show cN (sBm A p h) = cN A from cN_c rfl, show vL (sBm A p h) = vL A from vL_c rfl rfl]; exact R3
  · show upd (m 14) h (m 14 h + 1) q = upd (A 12) h (A 12 h + 1) q
    rw [upd_at, upd_at, R5 q hq, R5 h hh]
  · show upd (m 14) h (m 14 h + 1) 4 = 0
    rw [upd_at, if_neg (by omega)]; exact R50
theorem validPageAt_S {m A : gM} {k : Nat} (hR : jR m A) (ha : jA A) (hk : k < 96) : f_s_validPageAt m (Int32.ofNat k) = (if vd A k = 1 then A 0 k else -1) ∧ o_s_validPageAt m (Int32.ofNat k) := by
  obtain ⟨R1, R2, -⟩ := hR
  unfold f_s_validPageAt o_s_validPageAt
  simp only [g_let_def, nI_ix (show k < 2147483648 by omega), R2 k hk]
  unfold vd
  have hv := vp_in_nI hk (show 96 < 2 ^ 31 by omega)
  rcases ha k hk with q | ⟨p, hp, q⟩
  · simp only [if_pos q]; exact ⟨rfl, hv, trivial⟩
  · have n1 := nI_ne1 (n := p) (by omega)
    simp only [q, if_neg n1, nI_ix (show p < 2147483648 by omega), (R1 p hp).1]
    by_cases w : A 1 p = Int32.ofNat k
    · simp only [if_pos w]; exact ⟨rfl, hv, vp_in_nI hp (by omega), trivial⟩
    · simp only [if_neg w]; exact ⟨rfl, hv, vp_in_nI hp (by omega), trivial⟩
def cI (B e t : Nat) (A0 : gM) (i d : Nat) (A : gM) : Prop := jV e (t + d) 99 99 A ∧ (∀ j, j < 8 → A 0 (8 * B + j) = A0 0 (8 * B + j)) ∧ (∀ j, j < 8 → (j < i → vd A (8 * B + j) = 0) ∧ (i ≤ j → vd A (8 * B + j) = vd A0 (8 * B + j))) ∧ A 6 B = 2 ∧ sS 12 (cN A) = sS 12 (cN A0) + d ∧ d = sS i (fun j => vd A0 (8 * B + j)) ∧ avN 4 A + d = avN 4 A0 ∧ (∀ j, j ≠ 5 → A 13 j = A0 13 j) ∧ A 11 4 = A0 11 4 + Int32.ofNat d ∧ A 3 = A0 3 ∧ A 8 = A0 8
theorem cI_d {B e t i d : Nat} {A0 A : gM} (h : cI B e t A0 i d A) : d ≤ i := by
  obtain ⟨-, -, -, -, -, h, -⟩ := h
  have := sS_le (f := fun j => vd A0 (8 * B + j)) (c := 1) i (fun j _ => Nat.le_trans (vd_le _ _) (bN_le _ _))
  omega
/-- a slot with no valid page is passed over -/
theorem cI_skip {B e t i d : Nat} {A0 A : gM} (h : cI B e t A0 i d A) (hi : i < 8) (hv : vd A (8 * B + i) = 0) : cI B e t A0 (i + 1) d A := by
  obtain ⟨h1, h2, h3, h4, h5, h6, h7⟩ := h
  refine ⟨h1, h2, fun j hj => ⟨fun w => ?_, fun w => (h3 j hj).2 (by omega)⟩, h4, h5, ?_, h7⟩
  · by_cases q : j = i
    · subst q; exact hv
    · exact (h3 j hj).1 (by omega)
  · have := (h3 i hi).2 (Nat.le_refl _)
    show d = sS i (fun j => vd A0 (8 * B + j)) + vd A0 (8 * B + i)
    omega
/-- a valid page is programmed anew -/
theorem cI_move {m A A0 : gM} {B e t i d p : Nat} (hc : cI B e t A0 i d A) (hR : jR m A) (hB : B < 12) (hi : i < 8) (hv : vd A (8 * B + i) = 1) (hp : p < 40) (h0 : A 0 (8 * B + i) = Int32.ofNat p) (hav : 8 ≤ avN 4 A0) (hful : ∀ j, j < 8 → A0 0 (8 * B + j) ≠ -1) (ht : t + 8 < 2147483600) :
    ∃ h, h < 4 ∧ A 2 p = Int32.ofNat h ∧ m 2 p = Int32.ofNat h ∧ 1 ≤ avN 4 A ∧
    o_s_openBlock (mBm m p h) (4 : Int32) ∧ o_s_program (f_s_openBlock (mBm m p h) (4 : Int32)).2 (Int32.ofNat p) (4 : Int32) (f_s_openBlock (mBm m p h) (4 : Int32)).1 ∧
    jR (f_s_program (f_s_openBlock (mBm m p h) (4 : Int32)).2 (Int32.ofNat p) (4 : Int32) (f_s_openBlock (mBm m p h) (4 : Int32)).1) (sBm (pgA A p 4) p h) ∧ cI B e t A0 (i + 1) (d + 1) (sBm (pgA A p 4) p h) := by
  have hd := cI_d hc
  obtain ⟨h1, h2, h3, h4, h5, h6, h7, h8, h9, h10, h11⟩ := hc
  have hA := h1
  obtain ⟨ia, ib, ih, ic, -, -, -, -, -, is⟩ := h1
  have h1p : A 1 p = Int32.ofNat (8 * B + i) := by
    unfold vd at hv
    rw [h0, if_neg (nI_ne1 (by omega)), nI_ix (by omega)] at hv
    by_cases w : A 1 p = Int32.ofNat (8 * B + i)
    · exact w
    · rw [if_neg w] at hv; omega
  obtain ⟨h, hh, h2p⟩ := (ih p hp).1 (by rw [h1p]; exact nI_ne1 (by omega))
  have hm2 : m 2 p = Int32.ofNat h := by rw [((hR.1 p hp).2.1) (by rw [h2p]; exact nI_ne1 (by omega)), h2p]
  have hav1 : 1 ≤ avN 4 A := by omega
  have hAb : jV e (t + d) 99 99 (sBm A p h) := jV_c (A := A) rfl rfl rfl rfl rfl rfl rfl rfl rfl is hA
  have e4 : Int32.ofNat 4 = (4 : Int32) := rfl
  have havb : avN 4 (sBm A p h) = avN 4 A := by
    unfold avN
    rw [show cN (sBm A p h) = cN A from cN_c rfl, show frN (sBm A p h) = frN A from frN_c rfl]; rfl
  obtain ⟨s1, s2, s3, s4, s5⟩ := prog_step (s := 4) (jR_sBm hR hp hh) hAb (Or.inl rfl) hp (by omega) (by omega) hh h2p (by rw [havb]; exact hav1)
  rw [e4] at s1 s2 s3
  rw [pgA_sBm] at s3 s4 s5
  obtain ⟨q1, q2, q3, q4, q5, ⟨q6, q7, -, -, q8, -⟩, q9, q10, q11, q12, q13, -, -⟩ := s5
  have hvb : vd (sBm A p h) = vd A := vd_c rfl rfl
  have hcb : cN (sBm A p h) = cN A := cN_c rfl
  rw [hvb] at q2
  rw [hcb] at q5
  have hne : ∀ j, j < 8 → A 0 (8 * B + j) ≠ -1 := fun j hj => by rw [h2 j hj]; exact hful j hj
  refine ⟨h, hh, h2p, hm2, hav1, s1, s2, s3, s4, fun j hj => ?_, fun j hj => ⟨fun w => ?_, fun w => ?_⟩, q4 B hB h4, ?_, ?_, ?_, fun j hj => ?_, ?_, ?_, ?_⟩
  · rw [q1 _ (by omega) (hne j hj)]; exact h2 j hj
  · by_cases v : j = i
    · subst v; exact q3 _ (by omega) h1p
    · rw [q2 _ (by omega) (hne j hj) (fun u => v (by have := nI_inj (by omega) (by omega) (h1p.symm.trans u); omega))]
      exact (h3 j hj).1 (by omega)
  · rw [q2 _ (by omega) (hne j hj) (fun u => by have := nI_inj (by omega) (by omega) (h1p.symm.trans u); omega)]
    exact (h3 j hj).2 (by omega)
  · omega
  · have := (h3 i hi).2 (Nat.le_refl _)
    show d + 1 = sS i (fun j => vd A0 (8 * B + j)) + vd A0 (8 * B + i)
    omega
  · omega
  · rw [q9 j hj]; exact h8 j hj
  · rw [q11]; show A 11 4 + 1 = _; rw [h9, ← nI_plus2 d 1, ← Int32.add_assoc]; rfl
  · rw [q7]; exact h10
  · rw [q8]; exact h11
