/-! the calls that change the state, one by one -/
theorem op_write_ok {n : Nat} {mh mr : gM} (hn : n < 512) (h : Rl n mh mr) (a1 a2 : Int32) : op_write (Rl (n + 1)) mh mr a1 a2 := by
  obtain ⟨hR, hT⟩ := selQ h.1
  have hV := hT.1
  obtain ⟨bd1, bd2⟩ := bd hn
  rcases isIn_c (M := 40) (L := 39) 40 a1 (by omega) (by omega) rfl rfl with ⟨u0, v0⟩ | ⟨p, hp, ep, u0, v0⟩
  · have v0' : f_r_isPage a1 = 0 := v0
    refine ⟨?_, Or.inr (Or.inl ⟨?_, ?_, ?_, ?_⟩)⟩
    · unfold o_r_write
      simp only [g_let_def, if_pos v0']
      exact ⟨o_isPage _, fl_o _ _, trivial⟩
    · unfold ox_h_write
      simp only [if_pos u0]
      exact ⟨o_isIn _ _, trivial⟩
    · unfold fx_h_write
      simp only [if_pos u0]
    · unfold f_r_write
      simp only [g_let_def, if_pos v0']
      exact fl_thrown _ _
    · unfold f_r_write
      simp only [g_let_def, if_pos v0']
      exact fl_Rl _ h
  · have v0' : ¬ (f_r_isPage a1 = 0) := v0
    rcases isIn_c (M := 4) (L := 3) 4 a2 (by omega) (by omega) rfl rfl with ⟨u1, v1⟩ | ⟨q, hq, eq, u1, v1⟩
    · have v1' : f_r_isHint a2 = 0 := v1
      refine ⟨?_, Or.inr (Or.inr (⟨?_, ?_, ?_, ?_⟩))⟩
      · unfold o_r_write
        simp only [g_let_def, if_neg v0', if_pos v1']
        exact ⟨o_isPage _, o_isHint _, fl_o _ _, trivial⟩
      · unfold ox_h_write
        simp only [if_neg u0, if_pos u1]
        exact ⟨o_isIn _ _, o_isIn _ _, trivial⟩
      · unfold fx_h_write
        simp only [if_neg u0, if_pos u1]
      · unfold f_r_write
        simp only [g_let_def, if_neg v0', if_pos v1']
        exact fl_thrown _ _
      · unfold f_r_write
        simp only [g_let_def, if_neg v0', if_pos v1']
        exact fl_Rl _ h
    · have v1' : ¬ (f_r_isHint a2 = 0) := v1
      subst ep
      subst eq
      have hqq := hq
      obtain ⟨w1, w2, w3, w4, w5, w6, w7, w8, w9, w10, w11⟩ := saved_R h
      generalize eS : f_h_saveState mh = S at *
      generalize eT : f_r_saves (g_set mr 0 (upd (mr 0) 6 (0 : Int32))) = T at *
      have hq := selQ w3
      have hc1 : 116400 * n + 97 * 40 ≤ 116400 * (n + 1) := by omega
      have hc0 : 116400 * n ≤ 116400 * (n + 1) := by omega
      obtain ⟨k1, k2, k3, k4⟩ := writePages_1 (zm := T) hq hp hqq (by omega)
      refine ⟨?_, Or.inl ⟨?_, ?_, ?_, ?_⟩⟩
      · unfold o_r_write
        simp only [g_let_def, if_neg v0', if_neg v1', eT]
        exact ⟨o_isPage _, o_isHint _, w2, k1, trivial⟩
      · unfold o_h_write
        simp only [g_let_def, if_neg u0, if_neg u1, eS]
        exact ⟨o_isIn _ _, o_isIn _ _, w1, k2, trivial⟩
      · unfold f_r_write
        simp only [g_let_def, if_neg v0', if_neg v1', eT]
        exact w6
      · unfold f_h_write f_r_write
        simp only [g_let_def, if_neg u0, if_neg u1, eS, if_neg v0', if_neg v1', eT]
        exact k3
      · unfold f_h_write f_r_write
        simp only [g_let_def, if_neg u0, if_neg u1, eS, if_neg v0', if_neg v1', eT]
        exact done_R (c := 116400 * n + 97) (by omega) hc0 (mrgQ k4) w4 w5 (mrg_out _ _) (fun c hc => (g_mrg1 T _).1 c hc)
theorem op_writeRow_ok {n : Nat} {mh mr : gM} (hn : n < 512) (h : Rl n mh mr) (a1 a2 a3 : Int32) : op_writeRow (Rl (n + 1)) mh mr a1 a2 a3 := by
  obtain ⟨hR, hT⟩ := selQ h.1
  have hV := hT.1
  obtain ⟨bd1, bd2⟩ := bd hn
  rcases isIn_c (M := 40) (L := 39) 40 a1 (by omega) (by omega) rfl rfl with ⟨u0, v0⟩ | ⟨p, hp, ep, u0, v0⟩
  · have v0' : f_r_isPage a1 = 0 := v0
    refine ⟨?_, Or.inr (Or.inl ⟨?_, ?_, ?_, ?_⟩)⟩
    · unfold o_r_writeRow
      simp only [g_let_def, if_pos v0']
      exact ⟨o_isPage _, fl_o _ _, trivial⟩
    · unfold ox_h_writeRow
      simp only [if_pos u0]
      exact ⟨o_isIn _ _, trivial⟩
    · unfold fx_h_writeRow
      simp only [if_pos u0]
    · unfold f_r_writeRow
      simp only [g_let_def, if_pos v0']
      exact fl_thrown _ _
    · unfold f_r_writeRow
      simp only [g_let_def, if_pos v0']
      exact fl_Rl _ h
  · have v0' : ¬ (f_r_isPage a1 = 0) := v0
    subst ep
    have e40 : (40 : Int32) - Int32.ofNat p = Int32.ofNat (40 - p) := by rw [show (40 : Int32) = Int32.ofNat ((40 - p) + p) from by rw [show (40 - p) + p = 40 by omega]; rfl, subNN]
    by_cases c1 : a2 < (1 : Int32)
    · have r1 : f_r_in a2 (1 : Int32) (Int32.ofNat (40 - p)) = 0 := by unfold f_r_in; rw [if_pos c1]
      refine ⟨?_, Or.inr (Or.inr (⟨?_, ?_, ?_, ?_⟩))⟩
      · unfold o_r_writeRow
        simp only [g_let_def, e40, if_neg v0', if_pos r1]
        exact ⟨o_isPage _, o_in _ _ _, fl_o _ _, trivial⟩
      · unfold ox_h_writeRow
        simp only [if_neg u0, if_pos c1]
        exact ⟨o_isIn _ _, trivial⟩
      · unfold fx_h_writeRow
        simp only [if_neg u0, if_pos c1]
      · unfold f_r_writeRow
        simp only [g_let_def, e40, if_neg v0', if_pos r1]
        exact fl_thrown _ _
      · unfold f_r_writeRow
        simp only [g_let_def, e40, if_neg v0', if_pos r1]
        exact fl_Rl _ h
    · obtain ⟨k, hk, ek⟩ := nI_of (x := a2) (fun w => c1 (by
      rw [Int32.lt_iff_toInt_lt] at w ⊢
      have q0 : (0 : Int32).toInt = 0 := by decide
      have q1 : (1 : Int32).toInt = 1 := by decide
      omega))
      have ek : a2 = Int32.ofNat k := ek
      subst ek
      have hk1 : 1 ≤ k := by
        rcases Nat.lt_or_ge k 1 with w | w
        · exact absurd ((ltI (b := 1) (by omega) (by omega)).mpr w) c1
        · exact w
      by_cases c2 : Int32.ofNat k ≤ Int32.ofNat (40 - p)
      · have hkp : k ≤ 40 - p := (leI (by omega) (by omega)).mp c2
        have r1 : ¬ (f_r_in (Int32.ofNat k) (1 : Int32) (Int32.ofNat (40 - p)) = 0) := by
          unfold f_r_in; rw [if_neg c1, if_neg (fun w => by have := (ltI (by omega) (by omega)).mp w; omega)]; decide
        rcases isIn_c (M := 4) (L := 3) 4 a3 (by omega) (by omega) rfl rfl with ⟨u2, v2⟩ | ⟨q, hqq, eq, u2, v2⟩
        · have v2' : f_r_isHint a3 = 0 := v2
          refine ⟨?_, Or.inr (Or.inr (⟨?_, ?_, ?_, ?_⟩))⟩
          · unfold o_r_writeRow
            simp only [g_let_def, e40, if_neg v0', if_neg r1, if_pos v2']
            exact ⟨o_isPage _, o_in _ _ _, o_isHint _, fl_o _ _, trivial⟩
          · unfold ox_h_writeRow
            simp only [e40, if_neg u0, if_neg c1, if_pos c2, if_pos u2]
            exact ⟨o_isIn _ _, o_isIn _ _, trivial⟩
          · unfold fx_h_writeRow
            simp only [e40, if_neg u0, if_neg c1, if_pos c2, if_pos u2]
          · unfold f_r_writeRow
            simp only [g_let_def, e40, if_neg v0', if_neg r1, if_pos v2']
            exact fl_thrown _ _
          · unfold f_r_writeRow
            simp only [g_let_def, e40, if_neg v0', if_neg r1, if_pos v2']
            exact fl_Rl _ h
        · have v2' : ¬ (f_r_isHint a3 = 0) := v2
          subst eq
          obtain ⟨w1, w2, w3, w4, w5, w6, w7, w8, w9, w10, w11⟩ := saved_R h
          generalize eS : f_h_saveState mh = S at *
          generalize eT : f_r_saves (g_set mr 0 (upd (mr 0) 6 (0 : Int32))) = T at *
          have hq := selQ w3
          have hc1 : 116400 * n + 97 * 40 ≤ 116400 * (n + 1) := by omega
          have hc0 : 116400 * n ≤ 116400 * (n + 1) := by omega
          have el : Int32.ofNat p + Int32.ofNat k - (1 : Int32) = Int32.ofNat (p + k - 1) := by rw [nI_plus2, show p + k = (p + k - 1) + 1 by omega]; exact nI_pred _
          obtain ⟨k1, k2, k3, k4, k5⟩ := writePages_row (zm := T) (p := p) (k := k) hq hk1 (by omega) hqq (by omega)
          have k6 : f_r_thrown (run (L_r_writeRow_53 (Int32.ofNat p) (Int32.ofNat k) (Int32.ofNat q)) 400 ((0 : Int32), Int32.ofNat p, T)).2.2 = 0 := by
            unfold f_r_thrown; rw [k5 0 (by decide)]; exact w6
          refine ⟨?_, Or.inl ⟨?_, ?_, ?_, ?_⟩⟩
          · unfold o_r_writeRow
            simp only [g_let_def, e40, if_neg v0', if_neg r1, if_neg v2', eT]
            exact ⟨o_isPage _, o_in _ _ _, o_isHint _, w2, k1, trivial⟩
          · unfold o_h_writeRow
            simp only [g_let_def, e40, el, if_neg u0, if_neg c1, if_pos c2, if_neg u2, eS]
            exact ⟨o_isIn _ _, o_isIn _ _, w1, k2, trivial⟩
          · unfold f_r_writeRow
            simp only [g_let_def, e40, if_neg v0', if_neg r1, if_neg v2', eT]
            exact k6
          · unfold f_h_writeRow f_r_writeRow
            simp only [g_let_def, e40, el, if_neg u0, if_neg c1, if_pos c2, if_neg u2, eS, e40, if_neg v0', if_neg r1, if_neg v2', eT]
            exact k3
          · unfold f_h_writeRow f_r_writeRow
            simp only [g_let_def, e40, el, if_neg u0, if_neg c1, if_pos c2, if_neg u2, eS, e40, if_neg v0', if_neg r1, if_neg v2', eT]
            exact done_R (c := 116400 * n + 97 * 40) hc1 hc0 (mrgQ k4) w4 w5 (mrg_out _ _) k5
      · have r1 : f_r_in (Int32.ofNat k) (1 : Int32) (Int32.ofNat (40 - p)) = 0 := by
          unfold f_r_in; rw [if_neg c1, if_pos ((ltI (by omega) (by omega)).mpr (Nat.lt_of_not_le (fun w => c2 ((leI (by omega) (by omega)).mpr w))))]
        refine ⟨?_, Or.inr (Or.inr (⟨?_, ?_, ?_, ?_⟩))⟩
        · unfold o_r_writeRow
          simp only [g_let_def, e40, if_neg v0', if_pos r1]
          exact ⟨o_isPage _, o_in _ _ _, fl_o _ _, trivial⟩
        · unfold ox_h_writeRow
          simp only [e40, if_neg u0, if_neg c1, if_neg c2]
          exact ⟨o_isIn _ _, trivial⟩
        · unfold fx_h_writeRow
          simp only [e40, if_neg u0, if_neg c1, if_neg c2]
        · unfold f_r_writeRow
          simp only [g_let_def, e40, if_neg v0', if_pos r1]
          exact fl_thrown _ _
        · unfold f_r_writeRow
          simp only [g_let_def, e40, if_neg v0', if_pos r1]
          exact fl_Rl _ h
theorem forget_RS {m A : gM} {e t p : Nat} (hQ : jQ e t m A) (hp : p < 40) : jQ e t (f_s_forget m (Int32.ofNat p)) (sIn (sIn (sIn A 1 p (-1)) 2 p (-1)) 5 p 0) ∧ o_s_forget m (Int32.ofNat p) := by
  obtain ⟨hR, hV, hW, hF⟩ := hQ
  have hV0 := hV
  obtain ⟨ia, ib, ih, ic, id, ie, if', ig, ii, is⟩ := hV
  have ip := nI_ix (show p < 2147483648 by omega)
  have vp := vp_in_nI hp (show 40 < 2 ^ 31 by omega)
  have hm1 := (hR.1 p hp).1
  have hfin : ∀ X : gM, jV e t 99 p X → X 1 = upd (A 1) p (-1) → X 2 = A 2 → jV e t 99 99 (sIn (sIn X 2 p (-1)) 5 p 0) := by
    intro X hX h1 h2
    obtain ⟨ia, ib, ih, ic, id, ie, if', ig, ii, is⟩ := hX
    refine ⟨ia, ib, fun q hq => ?_, jC_c (A := X) rfl rfl rfl rfl ic, id, ?_, if', ig, ii, is⟩
    · have e1 : sIn (sIn X 2 p (-1)) 5 p 0 1 = X 1 := rfl
      have e2 : sIn (sIn X 2 p (-1)) 5 p 0 2 q = upd (X 2) p (-1) q := rfl
      rw [e1, e2, upd_at]
      by_cases w : q = p
      · rw [if_pos w]
        refine ⟨fun z => absurd ?_ z, fun _ _ => rfl⟩
        rw [h1, upd_at, if_pos w]
      · rw [if_neg w]; exact ⟨(ih q hq).1, fun _ => (ih q hq).2 w⟩
    · unfold jE; rw [show vL (sIn (sIn X 2 p (-1)) 5 p 0) = vL X from vL_c rfl rfl, show wN (sIn (sIn X 2 p (-1)) 5 p 0) = wN X from wN_c rfl]; exact ie
  have hcN : cN (sIn (sIn (sIn A 1 p (-1)) 2 p (-1)) 5 p 0) = cN A := cN_c rfl
  have hRp : ∀ F : gM, F 1 = upd (m 1) p (-1) → F 2 = m 2 → F 3 = m 3 → F 4 = m 4 → F 5 = upd (m 5) p 0 → F 6 = m 6 → F 7 = m 7 → F 8 = m 8 → F 10 = m 10 → F 11 = m 11 → F 12 = m 12 → F 13 = m 13 → F 14 = m 14 → F 15 = m 15 → F 0 = m 0 → (∀ b, b < 12 → F 9 b = Int32.ofNat (vL (sIn (sIn (sIn A 1 p (-1)) 2 p (-1)) 5 p 0) b)) → jR F (sIn (sIn (sIn A 1 p (-1)) 2 p (-1)) 5 p 0) := by
    intro F f1 f2 f3 f4 f5 f6 f7 f8 f10 f11 f12 f13 f14 f15 f0 f9
    obtain ⟨R1, R2, R3, R4, R5, R6, R7, R8, R9⟩ := hR
    refine ⟨fun q hq => ?_, fun k hk => ?_, fun b hb => ?_, fun s hs => ?_, ?_, ?_, ?_, ?_, ?_⟩
    · obtain ⟨a1, a2, a3, a4, a5⟩ := R1 q hq
      refine ⟨?_, ?_, ?_, ?_, ?_⟩
      · rw [f1]; show upd (m 1) p (-1) q = upd (A 1) p (-1) q; rw [upd_at, upd_at, a1]
      · rw [f2]; show upd (A 2) p (-1) q ≠ -1 → m 2 q = upd (A 2) p (-1) q
        rw [upd_at]
        by_cases w : q = p
        · rw [if_pos w]; exact fun z => absurd rfl z
        · rw [if_neg w]; exact a2
      · rw [f3]; exact a3
      · rw [f4]; exact a4
      · rw [f5]; show upd (m 5) p 0 q = upd (A 5) p 0 q; rw [upd_at, upd_at, a5]
    · rw [f6]; exact R2 k hk
    · obtain ⟨a1, a2, a3, a4, a5⟩ := R3 b hb
      rw [f7, f8, f10, f11, hcN]; exact ⟨a1, a2, f9 b hb, a4, a5⟩
    · rw [f12, f13]; exact R4 s hs
    · rw [f14]; exact R5
    · rw [f15]; exact R6
    · rw [f15]; exact R7
    · rw [f0]; exact R8
    · rw [f0]; exact R9
  rcases ib p hp with z | ⟨k, hk, z, -⟩
  · have hm : m 1 p = -1 := by rw [hm1, z]
    have hA1 : sIn A 1 p (-1) = A := by
      funext f
      unfold sIn
      rw [g_set_at]
      split
      · rename_i w; subst w; funext j; rw [upd_at]; split
        · rename_i w; rw [w, z]
        · rfl
      · rfl
    have hX : jV e t 99 p (sIn A 1 p (-1)) := by rw [hA1]; exact ⟨ia, ib, jH_x p ih, ic, id, ie, if', ig, ii, is⟩
    unfold f_s_forget o_s_forget
    simp only [g_let_def, ip, hm, if_true]
    refine ⟨⟨hRp _ rfl rfl rfl rfl rfl rfl rfl rfl rfl rfl rfl rfl rfl rfl rfl (fun b hb => ?_), hfin _ hX rfl rfl, hW, hF⟩, vp, vp, vp, trivial⟩
    have : vL (sIn (sIn (sIn A 1 p (-1)) 2 p (-1)) 5 p 0) = vL (sIn A 1 p (-1)) := vL_c rfl rfl
    rw [this, hA1]; exact (hR.2.2.1 b hb).2.2.1
  · have hm : m 1 p = Int32.ofNat k := by rw [hm1, z]
    have nk : ¬ (Int32.ofNat k = -1) := nI_ne1 (by omega)
    obtain ⟨s1, s2, s3, -⟩ := jV_sFg hV0 hp hk z
    have vk := vp_in_nI (show k / 8 < 12 by omega) (show 12 < 2 ^ 31 by omega)
    unfold f_s_forget o_s_forget
    simp only [g_let_def, ip, hm, if_neg nk, d8 k hk, nI_ix (show k / 8 < 2147483648 by omega)]
    refine ⟨⟨hRp _ rfl rfl rfl rfl rfl rfl rfl rfl rfl rfl rfl rfl rfl rfl rfl (fun b hb => ?_), hfin _ s1 rfl rfl, hW, hF⟩, vp, vk, vk, vp, vp, trivial⟩
    have hv : vL (sIn (sIn (sIn A 1 p (-1)) 2 p (-1)) 5 p 0) = vL (sFg A p) := vL_c rfl rfl
    rw [hv]
    show upd (m 9) (k / 8) (m 9 (k / 8) - 1) b = _
    rw [upd_at]
    by_cases w : b = k / 8
    · rw [if_pos w, w, (hR.2.2.1 (k / 8) (by omega)).2.2.1, ← s3]; exact nI_pred _
    · rw [if_neg w, s2 b hb w]; exact (hR.2.2.1 b hb).2.2.1
theorem op_trim_ok {n : Nat} {mh mr : gM} (hn : n < 512) (h : Rl n mh mr) (a1 : Int32) : op_trim (Rl (n + 1)) mh mr a1 := by
  obtain ⟨hR, hT⟩ := selQ h.1
  have hV := hT.1
  obtain ⟨bd1, bd2⟩ := bd hn
  rcases isIn_c (M := 40) (L := 39) 40 a1 (by omega) (by omega) rfl rfl with ⟨u0, v0⟩ | ⟨p, hp, ep, u0, v0⟩
  · have v0' : f_r_isPage a1 = 0 := v0
    refine ⟨?_, Or.inr (⟨?_, ?_, ?_, ?_⟩)⟩
    · unfold o_r_trim
      simp only [g_let_def, if_pos v0']
      exact ⟨o_isPage _, fl_o _ _, trivial⟩
    · unfold ox_h_trim
      simp only [if_pos u0]
      exact ⟨o_isIn _ _, trivial⟩
    · unfold fx_h_trim
      simp only [if_pos u0]
    · unfold f_r_trim
      simp only [g_let_def, if_pos v0']
      exact fl_thrown _ _
    · unfold f_r_trim
      simp only [g_let_def, if_pos v0']
      exact fl_Rl _ h
  · have v0' : ¬ (f_r_isPage a1 = 0) := v0
    subst ep
    obtain ⟨w1, w2, w3, w4, w5, w6, w7, w8, w9, w10, w11⟩ := saved_R h
    generalize eS : f_h_saveState mh = S at *
    generalize eT : f_r_saves (g_set mr 0 (upd (mr 0) 6 (0 : Int32))) = T at *
    have hq := selQ w3
    have hc1 : 116400 * n + 97 * 40 ≤ 116400 * (n + 1) := by omega
    have hc0 : 116400 * n ≤ 116400 * (n + 1) := by omega
    have o0 := of_A (m := g_sel [1] T) hp
    rw [aR_sel1] at o0
    obtain ⟨b1, b2⟩ := blockOf_S hq.1 hp
    obtain ⟨k1, k2⟩ := forget_RS hq hp
    have hT1 : vA ((g_set (g_set (g_set T 1 (upd (T 1) (((144 : Int32) + ((5 : Int32) * Int32.ofNat p)) + (0 : Int32)).toNatClampNeg (-1 : Int32))) 1 (upd ((g_set T 1 (upd (T 1) (((144 : Int32) + ((5 : Int32) * Int32.ofNat p)) + (0 : Int32)).toNatClampNeg (-1 : Int32))) 1) (((144 : Int32) + ((5 : Int32) * Int32.ofNat p)) + (1 : Int32)).toNatClampNeg (-1 : Int32))) 1 (upd ((g_set (g_set T 1 (upd (T 1) (((144 : Int32) + ((5 : Int32) * Int32.ofNat p)) + (0 : Int32)).toNatClampNeg (-1 : Int32))) 1 (upd ((g_set T 1 (upd (T 1) (((144 : Int32) + ((5 : Int32) * Int32.ofNat p)) + (0 : Int32)).toNatClampNeg (-1 : Int32))) 1) (((144 : Int32) + ((5 : Int32) * Int32.ofNat p)) + (1 : Int32)).toNatClampNeg (-1 : Int32))) 1) (((144 : Int32) + ((5 : Int32) * Int32.ofNat p)) + (4 : Int32)).toNatClampNeg (0 : Int32))) 1) = sIn (sIn (sIn (vA (T 1)) 1 p (-1)) 2 p (-1)) 5 p 0 := by
      simp only [g_set_s, rt5 hp, rt2 hp, rt1 hp]
      rfl
    rw [← hT1] at k1
    have key : ∀ X : gM, (∀ c, c ≠ 1 → X c = T c) → hQ (116400 * n) 4 (g_mrg [4, 5, 6, 7, 8, 9, 10, 11, 12, 13, 14, 15, 16, 17, 18, 19] S (f_s_forget (g_sel [4, 5, 6, 7, 8, 9, 10, 11, 12, 13, 14, 15, 16, 17, 18, 19] S) (Int32.ofNat p))) (X 1) → Rl (n + 1) (g_mrg [4, 5, 6, 7, 8, 9, 10, 11, 12, 13, 14, 15, 16, 17, 18, 19] S (f_s_forget (g_sel [4, 5, 6, 7, 8, 9, 10, 11, 12, 13, 14, 15, 16, 17, 18, 19] S) (Int32.ofNat p))) X ∧ f_r_thrown X = 0 := by
      intro X hX hXq
      refine ⟨done_R hc0 hc0 hXq w4 w5 (mrg_out _ _) hX, ?_⟩
      unfold f_r_thrown; rw [hX 0 (by decide)]; exact w6
    have key1 := key _ (fun c hc => by rw [g_set_n hc, g_set_n hc, g_set_n hc]) (mrgQ k1)
    by_cases hz : vA (T 1) 1 p = -1
    · refine ⟨?_, Or.inl ⟨?_, ?_, ?_, ?_⟩⟩
      · unfold o_r_trim
        simp only [g_let_def, if_neg v0', o0.1, if_pos hz, eT]
        exact ⟨o_isPage _, w2, o0.2, ro1 hp, ro2 hp, ro5 hp, trivial⟩
      · unfold o_h_trim
        simp only [g_let_def, if_neg u0, eS]
        exact ⟨o_isIn _ _, w1, b2, k2, trivial⟩
      · unfold f_r_trim
        simp only [g_let_def, if_neg v0', o0.1, if_pos hz, eT]
        exact key1.2
      · unfold f_h_trim f_r_trim
        simp only [g_let_def, if_neg u0, eS, if_neg v0', o0.1, if_pos hz, eT]
        exact (b1.trans (if_pos hz))
      · unfold f_h_trim f_r_trim
        simp only [g_let_def, if_neg u0, eS, if_neg v0', o0.1, if_pos hz, eT]
        exact key1.1
    · refine ⟨?_, Or.inl ⟨?_, ?_, ?_, ?_⟩⟩
      · unfold o_r_trim
        simp only [g_let_def, if_neg v0', o0.1, if_neg hz, eT]
        exact ⟨o_isPage _, w2, o0.2, ro1 hp, ro2 hp, ro5 hp, trivial⟩
      · unfold o_h_trim
        simp only [g_let_def, if_neg u0, eS]
        exact ⟨o_isIn _ _, w1, b2, k2, trivial⟩
      · unfold f_r_trim
        simp only [g_let_def, if_neg v0', o0.1, if_neg hz, eT]
        exact key1.2
      · unfold f_h_trim f_r_trim
        simp only [g_let_def, if_neg u0, eS, if_neg v0', o0.1, if_neg hz, eT]
        exact (b1.trans (if_neg hz))
      · unfold f_h_trim f_r_trim
        simp only [g_let_def, if_neg u0, eS, if_neg v0', o0.1, if_neg hz, eT]
        exact key1.1
theorem hint_RS {m A : gM} {e t p h : Nat} (hQ : jQ e t m A) (hp : p < 40) (hh : h < 4) (hw : ¬ A 1 p = -1) : jQ e t (g_set m 2 (upd (m 2) p (Int32.ofNat h))) (sIn A 2 p (Int32.ofNat h)) := by
  obtain ⟨hR, hV, hW, hF⟩ := hQ
  refine ⟨jR_hint hR, ?_, hW, hF⟩
  obtain ⟨ia, ib, ih, r⟩ := jV_hint (p := p) hV hh
  refine ⟨ia, ib, fun q hq => ⟨(ih q hq).1, fun _ z => ?_⟩, r⟩
  by_cases w : q = p
  · subst w; exact absurd z hw
  · exact (ih q hq).2 w z
theorem op_hint_ok {n : Nat} {mh mr : gM} (hn : n < 512) (h : Rl n mh mr) (a1 a2 : Int32) : op_hint (Rl (n + 1)) mh mr a1 a2 := by
  obtain ⟨hR, hT⟩ := selQ h.1
  have hV := hT.1
  obtain ⟨bd1, bd2⟩ := bd hn
  rcases isIn_c (M := 40) (L := 39) 40 a1 (by omega) (by omega) rfl rfl with ⟨u0, v0⟩ | ⟨p, hp, ep, u0, v0⟩
  · have v0' : f_r_isPage a1 = 0 := v0
    refine ⟨?_, Or.inr (Or.inl ⟨?_, ?_, ?_, ?_⟩)⟩
    · unfold o_r_hint
      simp only [g_let_def, if_pos v0']
      exact ⟨o_isPage _, fl_o _ _, trivial⟩
    · unfold ox_h_hint
      simp only [if_pos u0]
      exact ⟨o_isIn _ _, trivial⟩
    · unfold fx_h_hint
      simp only [if_pos u0]
    · unfold f_r_hint
      simp only [g_let_def, if_pos v0']
      exact fl_thrown _ _
    · unfold f_r_hint
      simp only [g_let_def, if_pos v0']
      exact fl_Rl _ h
  · have v0' : ¬ (f_r_isPage a1 = 0) := v0
    rcases isIn_c (M := 4) (L := 3) 4 a2 (by omega) (by omega) rfl rfl with ⟨u1, v1⟩ | ⟨q, hq, eq, u1, v1⟩
    · have v1' : f_r_isHint a2 = 0 := v1
      refine ⟨?_, Or.inr (Or.inr (Or.inl ⟨?_, ?_, ?_, ?_⟩))⟩
      · unfold o_r_hint
        simp only [g_let_def, if_neg v0', if_pos v1']
        exact ⟨o_isPage _, o_isHint _, fl_o _ _, trivial⟩
      · unfold ox_h_hint
        simp only [if_neg u0, if_pos u1]
        exact ⟨o_isIn _ _, o_isIn _ _, trivial⟩
      · unfold fx_h_hint
        simp only [if_neg u0, if_pos u1]
      · unfold f_r_hint
        simp only [g_let_def, if_neg v0', if_pos v1']
        exact fl_thrown _ _
      · unfold f_r_hint
        simp only [g_let_def, if_neg v0', if_pos v1']
        exact fl_Rl _ h
    · have v1' : ¬ (f_r_isHint a2 = 0) := v1
      subst ep
      subst eq
      have hqq := hq
      obtain ⟨x1, x2⟩ := isWritten_S hR hp
      have o0 := of_A (m := g_sel [1] (g_set mr 0 (upd (mr 0) 6 (0 : Int32)))) hp
      have y2 : o_r_isWritten (g_sel [1] (g_set mr 0 (upd (mr 0) 6 (0 : Int32)))) (Int32.ofNat p) := by
        unfold o_r_isWritten
        refine ⟨o0.2, ?_⟩
        split <;> trivial
      have y1 : f_r_isWritten (g_sel [1] (g_set mr 0 (upd (mr 0) 6 (0 : Int32)))) (Int32.ofNat p) = (if vA (mr 1) 1 p = -1 then 0 else 1) := by
        unfold f_r_isWritten; rw [o0.1]; rfl
      have n10 : ¬ ((1 : Int32) = 0) := by decide
      by_cases hz : vA (mr 1) 1 p = -1
      · rw [if_pos hz] at x1 y1
        refine ⟨?_, Or.inr (Or.inr (Or.inr (⟨?_, ?_, ?_, ?_⟩)))⟩
        · unfold o_r_hint
          simp only [g_let_def, if_neg v0', if_neg v1', if_pos y1]
          exact ⟨o_isPage _, o_isHint _, y2, fl_o _ _, trivial⟩
        · unfold ox_h_hint
          simp only [if_neg u0, if_neg u1, if_pos x1]
          exact ⟨o_isIn _ _, o_isIn _ _, x2, trivial⟩
        · unfold fx_h_hint
          simp only [if_neg u0, if_neg u1, if_pos x1]
        · unfold f_r_hint
          simp only [g_let_def, if_neg v0', if_neg v1', if_pos y1]
          exact fl_thrown _ _
        · unfold f_r_hint
          simp only [g_let_def, if_neg v0', if_neg v1', if_pos y1]
          exact fl_Rl _ h
      · rw [if_neg hz] at x1 y1
        have x3 : ¬ (f_s_isWritten (g_sel [4, 5, 6, 7, 8, 9, 10, 11, 12, 13, 14, 15, 16, 17, 18, 19] mh) (Int32.ofNat p) = 0) := by rw [x1]; exact n10
        have y3 : ¬ (f_r_isWritten (g_sel [1] (g_set mr 0 (upd (mr 0) 6 (0 : Int32)))) (Int32.ofNat p) = 0) := by rw [y1]; exact n10
        obtain ⟨w1, w2, w3, w4, w5, w6, w7, w8, w9, w10, w11⟩ := saved_R h
        generalize eS : f_h_saveState mh = S at *
        generalize eT : f_r_saves (g_set mr 0 (upd (mr 0) 6 (0 : Int32))) = T at *
        have hq := selQ w3
        have hc1 : 116400 * n + 97 * 40 ≤ 116400 * (n + 1) := by omega
        have hc0 : 116400 * n ≤ 116400 * (n + 1) := by omega
        have hz' : ¬ (vA (T 1) 1 p = -1) := by rw [w8]; exact hz
        obtain ⟨hd, hhd, ehd⟩ := (hq.2.1.2.2.1 p hp).1 hz'
        have o1 := of_A2 (m := g_sel [1] T) hp
        rw [aR_sel1] at o1
        have hS6 : S 6 p = vA (T 1) 2 p := (hq.1.1 p hp).2.1 (by rw [ehd]; exact nI_ne1 (by omega))
        have k1 := hint_RS hq hp hqq hz'
        have hT1 : vA ((g_set T 1 (upd (T 1) (((144 : Int32) + ((5 : Int32) * Int32.ofNat p)) + (1 : Int32)).toNatClampNeg (Int32.ofNat q))) 1) = sIn (vA (T 1)) 2 p (Int32.ofNat q) := by
          rw [g_set_s, rt2 hp]; rfl
        rw [← hT1] at k1
        have k2 : hQ (116400 * n) 4 (g_set S 6 (upd (S 6) p (Int32.ofNat q))) ((g_set T 1 (upd (T 1) (((144 : Int32) + ((5 : Int32) * Int32.ofNat p)) + (1 : Int32)).toNatClampNeg (Int32.ofNat q))) 1) := by
          refine ⟨jR_cell (m := g_set (g_sel [4, 5, 6, 7, 8, 9, 10, 11, 12, 13, 14, 15, 16, 17, 18, 19] S) 2 (upd ((g_sel [4, 5, 6, 7, 8, 9, 10, 11, 12, 13, 14, 15, 16, 17, 18, 19] S) 2) p (Int32.ofNat q))) (fun k z1 z2 => ?_) rfl rfl k1.1, k1.2⟩
          match k, z1, z2 with
          | 1, _, _ => rfl
          | 2, _, _ => rfl
          | 3, _, _ => rfl
          | 4, _, _ => rfl
          | 5, _, _ => rfl
          | 6, _, _ => rfl
          | 7, _, _ => rfl
          | 8, _, _ => rfl
          | 9, _, _ => rfl
          | 10, _, _ => rfl
          | 11, _, _ => rfl
          | 12, _, _ => rfl
          | 13, _, _ => rfl
          | 14, _, _ => rfl
          | 15, _, _ => rfl
          | n + 16, _, z => omega
          | 0, z, _ => omega
        have ip := nI_ix (show p < 2147483648 by omega)
        have vp := vp_in_nI hp (show 40 < 2 ^ 31 by omega)
        refine ⟨?_, Or.inl ⟨?_, ?_, ?_, ?_⟩⟩
        · unfold o_r_hint
          simp only [g_let_def, if_neg v0', if_neg v1', if_neg y3, o1.1, eT]
          exact ⟨o_isPage _, o_isHint _, y2, w2, o1.2, ro2 hp, trivial⟩
        · unfold o_h_hint
          simp only [g_let_def, if_neg u0, if_neg u1, if_neg x3, ip, eS]
          exact ⟨o_isIn _ _, o_isIn _ _, x2, w1, vp, vp, trivial⟩
        · unfold f_r_hint
          simp only [g_let_def, if_neg v0', if_neg v1', if_neg y3, o1.1, eT]
          exact w6
        · unfold f_h_hint f_r_hint
          simp only [g_let_def, if_neg u0, if_neg u1, if_neg x3, ip, eS, if_neg v0', if_neg v1', if_neg y3, o1.1, eT]
          exact hS6
        · unfold f_h_hint f_r_hint
          simp only [g_let_def, if_neg u0, if_neg u1, if_neg x3, ip, eS, if_neg v0', if_neg v1', if_neg y3, o1.1, eT]
          exact done_R hc0 hc0 k2 w4 w5 (fun c hc => g_set_n (by omega)) (fun c hc => g_set_n hc)
