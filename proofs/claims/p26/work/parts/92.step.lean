theorem sub_add1 (x : Int32) : x - 1 + 1 = x := Int32.sub_add_cancel x 1
/-- the pictures after a page is programmed -/
theorem jR_prog {m A F : gM} {p s b : Nat} (hR : jR m A) (hp : p < 40) (hs : s < 5) (hb : b < 12)
    (hcN : ∀ b', b' < 12 → b' ≠ b → cN (prA A p s b) b' = cN A b') (hcb : cN (prA A p s b) b = cN A b + 1)
    (hvL : ∀ b', b' < 12 → vL (prA A p s b) b' + atB A p b' = vL A b' + (if b' = b then 1 else 0)) (hfr : frN (prA A p s b) = frN A)
    (F0 : F 0 15 = m 0 15 ∧ F 0 16 = if cN A b = 7 then m 0 16 + 1 else m 0 16)
    (F1 : F 1 = upd (m 1) p (Int32.ofNat (8 * b + cN A b))) (F2 : F 2 = m 2 ∧ F 3 = m 3 ∧ F 4 = m 4 ∧ F 5 = m 5 ∧ F 7 = m 7 ∧ F 10 = m 10 ∧ F 14 = m 14 ∧ F 15 = m 15)
    (F6 : F 6 = upd (m 6) (8 * b + cN A b) (Int32.ofNat p)) (F8 : F 8 = upd (m 8) b (m 8 b + 1))
    (F9 : (A 1 p = -1 ∧ F 9 = upd (m 9) b (m 9 b + 1)) ∨ ∃ k, k < 96 ∧ A 1 p = Int32.ofNat k ∧ F 9 = upd (upd (m 9) (k / 8) (m 9 (k / 8) - 1)) b (upd (m 9) (k / 8) (m 9 (k / 8) - 1) b + 1))
    (F13 : F 13 = upd (m 13) s (m 13 s + 1)) (F12 : F 12 = if cN A b = 7 then upd (m 12) s (-1) else m 12) (F11 : F 11 = if cN A b = 7 then upd (m 11) b (m 0 16) else m 11) : jR F (prA A p s b) := by
  obtain ⟨R1, R2, R3, R4, R5, R6, R7, R8, R9⟩ := hR
  obtain ⟨f2, f3, f4, f5, f7, f10, f14, f15⟩ := F2
  obtain ⟨g2, g3, g4, g5, g7, g8, g12, g0, g1, g11, g6, g9, g10, g13⟩ := prA_f (A := A) (p := p) (s := s) (b := b)
  have h5 : prA A p s b 13 0 = A 13 0 ∧ prA A p s b 13 1 = A 13 1 := by
    rw [g13]; split
    · exact ⟨by rw [upd_at, if_neg (by decide)], by rw [upd_at, if_neg (by decide)]⟩
    · exact ⟨rfl, rfl⟩
  refine ⟨fun q hq => ?_, fun k hk => ?_, fun q hq => ?_, fun q hq => ?_, ?_, ?_, ?_, ?_, ?_⟩
  · obtain ⟨a1, a2, a3, a4, a5⟩ := R1 q hq
    rw [F1, f2, f3, f4, f5, g1, g2, g3, g4, g5, upd_at, upd_at, a1]
    exact ⟨rfl, a2, a3, a4, a5⟩
  · rw [F6, g0, upd_at, upd_at, R2 k hk]
  · obtain ⟨a1, a2, a3, a4, a5⟩ := R3 q hq
    rw [f7, f10, F8, g7, g8]
    refine ⟨a1, ?_, ?_, a4, ?_⟩
    · rw [upd_at]
      by_cases w : q = b
      · subst w; rw [if_pos rfl, hcb, a2, e1r]
      · rw [if_neg w, hcN q hq w, a2]
    · have hv := hvL q hq
      rcases F9 with ⟨z1, z2⟩ | ⟨k, hk, z1, z2⟩
      · have ha : atB A p q = 0 := by unfold atB; rw [if_pos z1]
        rw [z2, upd_at]
        by_cases w : q = b
        · subst w; rw [if_pos rfl, a3, e1r]
          rw [if_pos rfl] at hv
          have : vL (prA A p s q) q = vL A q + 1 := by omega
          rw [this]
        · rw [if_neg w, a3]
          rw [if_neg w] at hv
          have : vL (prA A p s b) q = vL A q := by omega
          rw [this]
      · have ha : atB A p q = if k / 8 = q then 1 else 0 := by unfold atB; rw [z1, if_neg (nI_ne1 (by omega)), nI_ix (by omega)]
        rw [ha] at hv
        rw [z2, upd_at]
        by_cases w : q = b
        · subst w
          rw [if_pos rfl] at hv ⊢
          rw [upd_at]
          by_cases v : k / 8 = q
          · rw [if_pos v] at hv
            rw [if_pos v.symm, v, a3, sub_add1]
            have : vL (prA A p s q) q = vL A q := by omega
            rw [this]
          · rw [if_neg v] at hv
            rw [if_neg (fun u => v u.symm), a3, e1r]
            have : vL (prA A p s q) q = vL A q + 1 := by omega
            rw [this]
        · rw [if_neg w] at hv ⊢
          rw [upd_at]
          by_cases v : k / 8 = q
          · rw [if_pos v] at hv
            rw [if_pos v.symm, v, a3]
            have : vL A q = vL (prA A p s b) q + 1 := by omega
            rw [this]; exact nI_pred _
          · rw [if_neg v] at hv
            rw [if_neg (fun u => v u.symm), a3]
            have : vL (prA A p s b) q = vL A q := by omega
            rw [this]
    · rw [F11, g9]
      by_cases w : cN A b = 7
      · rw [if_pos w, if_pos w, upd_at, upd_at, R9, a5]
      · rw [if_neg w, if_neg w, a5]
  · obtain ⟨a1, a2⟩ := R4 q hq
    rw [F12, F13, g10, g11]
    constructor
    · by_cases w : cN A b = 7
      · rw [if_pos w, if_pos w, upd_at, upd_at, a1]
      · rw [if_neg w, if_neg w, a1]
    · rw [upd_at, upd_at, a2, (R4 s hs).2]
  · rw [f14, g12]; exact R5
  · rw [f15, h5.1]; exact R6
  · rw [f15, h5.2]; exact R7
  · rw [F0.1, hfr]; exact R8
  · rw [F0.2, g13]
    by_cases w : cN A b = 7
    · rw [if_pos w, if_pos w, upd_at, if_pos rfl, R9]
    · rw [if_neg w, if_neg w, R9]
theorem program_R {m A : gM} {e t xp p s b h : Nat} (hR : jR m A) (hA : jV e t b xp A) (hx : xp = 99 ∨ xp = p) (hp : p < 40) (hs : s < 5) (hb : b < 12) (ht : t < 2147483600) (h10 : A 10 s = Int32.ofNat b) (h6 : A 6 b = 1) (h7 : A 7 b = Int32.ofNat s) (hh : h < 4) (h2 : A 2 p = Int32.ofNat h) (h8 : cN A b < 8) :
    jR (f_s_program m (Int32.ofNat p) (Int32.ofNat s) (Int32.ofNat b)) (prA A p s b) ∧ o_s_program m (Int32.ofNat p) (Int32.ofNat s) (Int32.ofNat b) := by
  obtain ⟨q1, q2, q3, q4, q5, q6, q7, q8, q9⟩ := prA_ok hA hx hp hs hb ht h10 h6 h7 hh h2 h8
  have hR0 := hR
  obtain ⟨R1, R2, R3, R4, R5, R6, R7, R8, R9⟩ := hR0
  have hm8 := (R3 b hb).2.1
  have hm1 := (R1 p hp).1
  obtain ⟨-, ib, -⟩ := hA
  rcases ib p hp with z | ⟨k, hk, z, -⟩
  · obtain ⟨w1, w2⟩ := program_1 (m := m) hp hs hb h8 hm8 (by rw [hm1, z])
    refine ⟨?_, w2⟩
    rw [w1]
    by_cases c7 : cN A b = 7
    · rw [if_pos c7]
      exact jR_prog hR hp hs hb q5 q6 q8 q9 ⟨rfl, (if_pos c7).symm ▸ rfl⟩ rfl ⟨rfl, rfl, rfl, rfl, rfl, rfl, rfl, rfl⟩ rfl rfl (Or.inl ⟨z, rfl⟩) rfl ((if_pos c7).symm ▸ rfl) ((if_pos c7).symm ▸ rfl)
    · rw [if_neg c7]
      exact jR_prog hR hp hs hb q5 q6 q8 q9 ⟨rfl, (if_neg c7).symm ▸ rfl⟩ rfl ⟨rfl, rfl, rfl, rfl, rfl, rfl, rfl, rfl⟩ rfl rfl (Or.inl ⟨z, rfl⟩) rfl ((if_neg c7).symm ▸ rfl) ((if_neg c7).symm ▸ rfl)
  · obtain ⟨w1, w2⟩ := program_2 (m := m) hp hs hb h8 hm8 hk (by rw [hm1, z])
    refine ⟨?_, w2⟩
    rw [w1]
    by_cases c7 : cN A b = 7
    · rw [if_pos c7]
      exact jR_prog hR hp hs hb q5 q6 q8 q9 ⟨rfl, (if_pos c7).symm ▸ rfl⟩ rfl ⟨rfl, rfl, rfl, rfl, rfl, rfl, rfl, rfl⟩ rfl rfl (Or.inr ⟨k, hk, z, rfl⟩) rfl ((if_pos c7).symm ▸ rfl) ((if_pos c7).symm ▸ rfl)
    · rw [if_neg c7]
      exact jR_prog hR hp hs hb q5 q6 q8 q9 ⟨rfl, (if_neg c7).symm ▸ rfl⟩ rfl ⟨rfl, rfl, rfl, rfl, rfl, rfl, rfl, rfl⟩ rfl rfl (Or.inr ⟨k, hk, z, rfl⟩) rfl ((if_neg c7).symm ▸ rfl) ((if_neg c7).symm ▸ rfl)
/-- room for the stream s: blank slots that it can come to -/
def avN (s : Nat) (A : gM) : Nat := 8 * frN A + (if A 10 s = -1 then 0 else 8 - cN A (A 10 s).toNatClampNeg)
/-- what a programmed page leaves as it was, and what it does -/
def jP (p s : Nat) (A A' : gM) : Prop :=
  (∀ j, j < 96 → A 0 j ≠ -1 → A' 0 j = A 0 j) ∧ (∀ j, j < 96 → A 0 j ≠ -1 → A 1 p ≠ Int32.ofNat j → vd A' j = vd A j) ∧ (∀ j, j < 96 → A 1 p = Int32.ofNat j → vd A' j = 0) ∧
  (∀ b, b < 12 → A 6 b = 2 → A' 6 b = 2) ∧ sS 12 (cN A') = sS 12 (cN A) + 1 ∧ (A' 2 = A 2 ∧ A' 3 = A 3 ∧ A' 4 = A 4 ∧ A' 5 = A 5 ∧ A' 8 = A 8 ∧ A' 12 = A 12) ∧ (∀ j, j ≠ 5 → A' 13 j = A 13 j) ∧
  (∀ s', s' ≠ s → A' 11 s' = A 11 s') ∧ A' 11 s = A 11 s + 1 ∧ frN A ≤ frN A' + 1 ∧ avN s A' + 1 = avN s A ∧ (∀ q, q ≠ p → A' 1 q = A 1 q) ∧ A' 1 p ≠ -1
def pgA (A : gM) (p s : Nat) : gM := if A 10 s = -1 then prA (sOp A s (fB0 A).toNatClampNeg) p s (fB0 A).toNatClampNeg else prA A p s (A 10 s).toNatClampNeg
theorem fresh_of {A : gM} (hfr1 : 1 ≤ frN A) : ∃ b, b < 12 ∧ fB0 A = Int32.ofNat b ∧ A 6 b = 0 := by
  rcases aM_spec (Pf A) (ltf A) 12 (by omega) with ⟨-, w⟩ | ⟨b, hb, w1, w2⟩
  · have : frN A = 0 := by
      unfold frN
      rw [sS_c (g := fun _ => 0) 12 (fun j hj => ?_)]
      · decide
      · have := w j hj
        unfold Pf at this
        unfold sN
        rw [if_neg (by simpa using this)]
    omega
  · exact ⟨b, hb, w1, by unfold Pf at w2; simpa using w2⟩
theorem prog_ref {mr A : gM} {e t xp p s : Nat} (hr : aR mr = A) (hA : jV e t 99 xp A) (hp : p < 40) (hs : s < 5) (hav : 1 ≤ avN s A) : aR (f_r_programs mr (Int32.ofNat p) (Int32.ofNat s)) = pgA A p s ∧ o_r_programs mr (Int32.ofNat p) (Int32.ofNat s) := by
  have hA0 := hA
  obtain ⟨ia, ib, ih, ic, id, ie, if', ig, ii, is⟩ := hA0
  rcases id s hs with h10 | ⟨b, hb, h10, h6, h7⟩
  · have hfr1 : 1 ≤ frN A := by
      unfold avN at hav; rw [if_pos h10] at hav; omega
    obtain ⟨b, hb, hf, h6⟩ := fresh_of hfr1
    obtain ⟨s1, s2, s3, s4, s5⟩ := jV_sOp hA hs hb h10 h6
    have c10 : sOp A s b 10 s = Int32.ofNat b := by show upd (A 10) s (Int32.ofNat b) s = _; rw [upd_at, if_pos rfl]
    have hz : aR (z30 mr (Int32.ofNat s) (Int32.ofNat b)) = sOp A s b := by rw [z30_A hs hb, hr]
    obtain ⟨-, -, -, ic1, -⟩ := s1
    have c8 : cN (sOp A s b) b = 0 := by rw [s2, s4]
    obtain ⟨k1, k2⟩ := programs_A1 (m := z30 mr (Int32.ofNat s) (Int32.ofNat b)) (p := p) (s := s) (b := b) hp hs hb (by rw [hz, c10]) (by rw [hz]; exact (ic1 b hb).1) (by rw [hz]; omega)
    obtain ⟨l1, l2⟩ := programs_A2 (m := mr) (p := p) hs hb (by rw [hr, h10]) (by rw [hr, hf])
    rw [hz] at k1
    have hpg : pgA A p s = prA (sOp A s b) p s b := by unfold pgA; rw [if_pos h10, hf, nI_ix (by omega)]
    rw [l1, k1, hpg]
    exact ⟨rfl, l2 k2⟩
  · have hc8 : cN A b < 8 := by
      rcases (ic b hb).2 with ⟨-, z, -⟩ | ⟨z | z, -⟩ | ⟨-, z, -⟩
      · rw [h6] at z; exact absurd z (by decide)
      · omega
      · exact z.2
      · rw [h6] at z; exact absurd z (by decide)
    obtain ⟨k1, k2⟩ := programs_A1 (m := mr) (p := p) (s := s) (b := b) hp hs hb (by rw [hr, h10]) (by rw [hr]; exact (ic b hb).1) (by rw [hr]; exact hc8)
    rw [hr] at k1
    have hpg : pgA A p s = prA A p s b := by unfold pgA; rw [h10, if_neg (nI_ne1 (by omega)), nI_ix (by omega)]
    rw [k1, hpg]
    exact ⟨rfl, k2⟩
theorem prog_step {m A : gM} {e t xp p s h : Nat} (hR : jR m A) (hA : jV e t 99 xp A) (hx : xp = 99 ∨ xp = p) (hp : p < 40) (hs : s < 5) (ht : t < 2147483600) (hh : h < 4) (h2 : A 2 p = Int32.ofNat h) (hav : 1 ≤ avN s A) :
    o_s_openBlock m (Int32.ofNat s) ∧ o_s_program (f_s_openBlock m (Int32.ofNat s)).2 (Int32.ofNat p) (Int32.ofNat s) (f_s_openBlock m (Int32.ofNat s)).1 ∧
    jR (f_s_program (f_s_openBlock m (Int32.ofNat s)).2 (Int32.ofNat p) (Int32.ofNat s) (f_s_openBlock m (Int32.ofNat s)).1) (pgA A p s) ∧
    jV e (t + 1) 99 99 (pgA A p s) ∧ jP p s A (pgA A p s) := by
  have hA0 := hA
  obtain ⟨ia, ib, ih, ic, id, ie, if', ig, ii, is⟩ := hA0
  rcases id s hs with h10 | ⟨b, hb, h10, h6, h7⟩
  · -- a free block is begun
    have hfr1 : 1 ≤ frN A := by
      unfold avN at hav; rw [if_pos h10] at hav; omega
    obtain ⟨b, hb, hf, h6⟩ := fresh_of hfr1
    obtain ⟨s1, s2, s3, s4, s5⟩ := jV_sOp hA hs hb h10 h6
    have hRo := jR_sOp hR hs hb s5
    obtain ⟨w1, w2⟩ := openBlock_2 hR ic hs hb h10 hf
    have c10 : sOp A s b 10 s = Int32.ofNat b := by show upd (A 10) s (Int32.ofNat b) s = _; rw [upd_at, if_pos rfl]
    have c6 : sOp A s b 6 b = 1 := by show upd (A 6) b 1 b = _; rw [upd_at, if_pos rfl]
    have c7 : sOp A s b 7 b = Int32.ofNat s := by show upd (A 7) b (Int32.ofNat s) b = _; rw [upd_at, if_pos rfl]
    have c8 : cN (sOp A s b) b = 0 := by rw [s2, s4]
    have c2 : sOp A s b 2 p = Int32.ofNat h := h2
    obtain ⟨p1, p2⟩ := program_R hRo s1 hx hp hs hb ht c10 c6 c7 hh c2 (by omega)
    obtain ⟨q1, q2, q3, q4, q5, q6, q7, q8, q9⟩ := prA_ok s1 hx hp hs hb ht c10 c6 c7 hh c2 (by omega)
    obtain ⟨g2, g3, g4, g5, g7, g8, g12, g0, g1, g11, g6, g9, g10, g13⟩ := prA_f (A := sOp A s b) (p := p) (s := s) (b := b)
    have hpg : pgA A p s = prA (sOp A s b) p s b := by unfold pgA; rw [if_pos h10, hf, nI_ix (by omega)]
    rw [hpg, w1]
    have n7 : ¬ (cN (sOp A s b) b = 7) := by omega
    refine ⟨w2, p2, p1, q1, fun j hj hne => ?_, fun j hj hne w => ?_, fun j hj w => (q3 j hj w).1, fun q hq w => ?_, ?_, ⟨g2, g3, g4, g5, g8, g12⟩, fun j _ => ?_, fun s' hs' => ?_, ?_, ?_, ?_, fun q hq => ?_, ?_⟩
    · rw [g0, upd_at, if_neg (fun v => by subst v; exact hne q4)]; rfl
    · rw [q2 j hj (fun v => by subst v; exact hne q4) w]; exact congrFun (vd_c (A := A) rfl rfl) j
    · rw [g6, if_neg n7]; show upd (A 6) b 1 q = 2
      rw [upd_at, if_neg (fun v => by subst v; rw [h6] at w; exact absurd w (by decide))]; exact w
    · rw [q7, s2]
    · rw [g13, if_neg n7]; rfl
    · rw [g11, upd_at, if_neg hs']; rfl
    · rw [g11, upd_at, if_pos rfl]; rfl
    · rw [q9]; omega
    · unfold avN
      rw [q9, g10, if_neg n7, c10, if_neg (nI_ne1 (by omega)), nI_ix (by omega), q6, c8, if_pos h10]
      omega
    · rw [g1, upd_at, if_neg hq]; rfl
    · rw [g1, upd_at, if_pos rfl]; exact nI_ne1 (by omega)
  · -- it has one
    have hc8 : 0 < cN A b ∧ cN A b < 8 := by
      rcases (ic b hb).2 with ⟨-, z, -⟩ | ⟨z | z, -⟩ | ⟨-, z, -⟩
      · rw [h6] at z; exact absurd z (by decide)
      · omega
      · exact z
      · rw [h6] at z; exact absurd z (by decide)
    have hA1 : jV e t b xp A := ⟨ia, ib, ih, jC_x b ic, id, ie, if', ig, ii, is⟩
    have hm12 : m 12 s = Int32.ofNat b := by rw [(hR.2.2.2.1 s hs).1, h10]
    obtain ⟨w1, w2⟩ := openBlock_1 hs hb hm12
    obtain ⟨p1, p2⟩ := program_R hR hA1 hx hp hs hb ht h10 h6 h7 hh h2 hc8.2
    obtain ⟨q1, q2, q3, q4, q5, q6, q7, q8, q9⟩ := prA_ok hA1 hx hp hs hb ht h10 h6 h7 hh h2 hc8.2
    obtain ⟨g2, g3, g4, g5, g7, g8, g12, g0, g1, g11, g6, g9, g10, g13⟩ := prA_f (A := A) (p := p) (s := s) (b := b)
    have hpg : pgA A p s = prA A p s b := by unfold pgA; rw [h10, if_neg (nI_ne1 (by omega)), nI_ix (by omega)]
    rw [hpg, w1]
    refine ⟨w2, p2, p1, q1, fun j hj hne => ?_, fun j hj hne w => q2 j hj (fun v => by subst v; exact hne q4) w, fun j hj w => (q3 j hj w).1, fun q hq w => ?_, q7, ⟨g2, g3, g4, g5, g8, g12⟩, fun j hj => ?_, fun s' hs' => ?_, ?_, ?_, ?_, fun q hq => ?_, ?_⟩
    · rw [g0, upd_at, if_neg (fun v => by subst v; exact hne q4)]
    · rw [g6]; split
      · rw [upd_at, if_neg (fun v => by subst v; rw [h6] at w; exact absurd w (by decide))]; exact w
      · exact w
    · rw [g13]; split
      · rw [upd_at, if_neg hj]
      · rfl
    · rw [g11, upd_at, if_neg hs']
    · rw [g11, upd_at, if_pos rfl]
    · rw [q9]; omega
    · unfold avN
      rw [q9, g10, h10, if_neg (nI_ne1 (by omega)), nI_ix (by omega)]
      by_cases w : cN A b = 7
      · rw [if_pos w, upd_at, if_pos rfl, if_pos rfl, w]
      · rw [if_neg w, h10, if_neg (nI_ne1 (by omega)), nI_ix (by omega), q6]; omega
    · rw [g1, upd_at, if_neg hq]
    · rw [g1, upd_at, if_pos rfl]; exact nI_ne1 (by omega)
