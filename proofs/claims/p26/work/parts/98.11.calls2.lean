/-! collect, tidy, set, undo, append, clearBuffer -/
theorem in_c {L M : Int32} (lo N : Nat) (a : Int32) (hl : lo ≤ N) (hl0 : 0 < lo) (hN : N < 1000) (hL : L = Int32.ofNat lo) (hM : M = Int32.ofNat N) : (a < L ∧ f_r_in a L M = 0) ∨ (¬ a < L ∧ ¬ a ≤ M ∧ f_r_in a L M = 0) ∨ ∃ k, lo ≤ k ∧ k ≤ N ∧ a = Int32.ofNat k ∧ ¬ a < L ∧ a ≤ M ∧ ¬ (f_r_in a L M = 0) := by
  subst hL
  subst hM
  by_cases h1 : a < Int32.ofNat lo
  · refine Or.inl ⟨h1, ?_⟩
    unfold f_r_in; rw [if_pos h1]
  · have h0 : ¬ a < 0 := fun w => h1 (by
      rw [Int32.lt_iff_toInt_lt] at w ⊢
      have q0 : (0 : Int32).toInt = 0 := by decide
      have q1 : (Int32.ofNat lo).toInt = lo := Int32.toInt_ofNat_of_lt (by omega)
      omega)
    obtain ⟨k, hk, ek⟩ := nI_of h0
    have ek : a = Int32.ofNat k := ek
    subst ek
    have hk1 : lo ≤ k := by
      rcases Nat.lt_or_ge k lo with w | w
      · exact absurd ((ltI (by omega) (by omega)).mpr w) h1
      · exact w
    by_cases h2 : k ≤ N
    · refine Or.inr (Or.inr ⟨k, hk1, h2, rfl, h1, (leI (by omega) (by omega)).mpr h2, ?_⟩)
      unfold f_r_in
      rw [if_neg h1, if_neg (fun w => by have := (ltI (by omega) (by omega)).mp w; omega)]; decide
    · refine Or.inr (Or.inl ⟨h1, fun w => h2 ((leI (by omega) (by omega)).mp w), ?_⟩)
      unfold f_r_in
      rw [if_neg h1, if_pos ((ltI (by omega) (by omega)).mpr (by omega))]
theorem jM_0 {A : gM} (h : 1 ≤ frN A) : jM A A 0 0 := ⟨⟨rfl, rfl, rfl, (Int32.add_zero _).symm, (Int32.add_zero _).symm⟩, (Int32.add_zero _).symm, rfl, (Int32.add_zero _).symm, h, Nat.le_refl _⟩
theorem op_collect_ok {n : Nat} {mh mr : gM} (hn : n < 512) (h : Rl n mh mr) (a1 : Int32) : op_collect (Rl (n + 1)) mh mr a1 := by
  obtain ⟨hR, hT⟩ := selQ h.1
  have hV := hT.1
  obtain ⟨bd1, bd2⟩ := bd hn
  rcases isIn_c (M := 12) (L := 11) 12 a1 (by omega) (by omega) rfl rfl with ⟨u0, v0⟩ | ⟨p, hp, ep, u0, v0⟩
  · have v0' : f_r_isBlock a1 = 0 := v0
    refine ⟨?_, Or.inr (Or.inl ⟨?_, ?_, ?_, ?_⟩)⟩
    · unfold o_r_collect
      simp only [g_let_def, if_pos v0']
      exact ⟨o_isBlock _, fl_o _ _, trivial⟩
    · unfold ox_h_collect
      simp only [if_pos u0]
      exact ⟨o_isIn _ _, trivial⟩
    · unfold fx_h_collect
      simp only [if_pos u0]
    · unfold f_r_collect
      simp only [g_let_def, if_pos v0']
      exact fl_thrown _ _
    · unfold f_r_collect
      simp only [g_let_def, if_pos v0']
      exact fl_Rl _ h
  · have v0' : ¬ (f_r_isBlock a1 = 0) := v0
    subst ep
    obtain ⟨x1, x2⟩ := stateOf_S hR hV hp
    have y1 : (g_set mr 0 (upd (mr 0) 6 (0 : Int32))) 1 ((96 : Int32) + Int32.ofNat p).toNatClampNeg = vA (mr 1) 6 p := rh6 (m := mr) hp
    by_cases hz : vA (mr 1) 6 p = 2
    · have x3 : f_s_stateOf (g_sel [4, 5, 6, 7, 8, 9, 10, 11, 12, 13, 14, 15, 16, 17, 18, 19] mh) (Int32.ofNat p) = 2 := by rw [x1, hz]
      obtain ⟨w1, w2, w3, w4, w5, w6, w7, w8, w9, w10, w11⟩ := saved_R h
      generalize eS : f_h_saveState mh = S at *
      generalize eT : f_r_saves (g_set mr 0 (upd (mr 0) 6 (0 : Int32))) = T at *
      have hq := selQ w3
      have hc1 : 116400 * n + 97 * 40 ≤ 116400 * (n + 1) := by omega
      have hc0 : 116400 * n ≤ 116400 * (n + 1) := by omega
      have hz' : vA (T 1) 6 p = 2 := by rw [w8]; exact hz
      obtain ⟨k1, k2, d, k3, k4, k5, k6⟩ := collects_RS (mr := g_sel [1] T) (aR_sel1 T) hq.1 hq.2.1 hp hz' hq.2.2.2 (by omega)
      have k7 := jT_M hq.2 (jV_up k5 (by omega) (by omega)) (jM_step (jM_0 hq.2.2.2) hp k6) (by omega)
      have k8 : jQ (116400 * n + 96) (8 * (116400 * n + 96)) (f_s_collectBlock (g_sel [4, 5, 6, 7, 8, 9, 10, 11, 12, 13, 14, 15, 16, 17, 18, 19] S) (Int32.ofNat p)) (vA ((g_mrg [1] T (f_r_collects (g_sel [1] T) (Int32.ofNat p)).2) 1)) := jQ_up ⟨k4, k7⟩ (by omega) (by omega)
      have e1 : f_s_copies (g_sel [4, 5, 6, 7, 8, 9, 10, 11, 12, 13, 14, 15, 16, 17, 18, 19] (g_mrg [4, 5, 6, 7, 8, 9, 10, 11, 12, 13, 14, 15, 16, 17, 18, 19] S (f_s_collectBlock (g_sel [4, 5, 6, 7, 8, 9, 10, 11, 12, 13, 14, 15, 16, 17, 18, 19] S) (Int32.ofNat p)))) = vA (T 1) 11 4 + Int32.ofNat d := by
        rw [← k6.2.1]; exact (k4.2.2.2.1 4 (by omega)).2
      have e2 : f_s_copies (g_sel [4, 5, 6, 7, 8, 9, 10, 11, 12, 13, 14, 15, 16, 17, 18, 19] S) = vA (T 1) 11 4 := (hq.1.2.2.2.1 4 (by omega)).2
      have e3 : f_s_copies (g_sel [4, 5, 6, 7, 8, 9, 10, 11, 12, 13, 14, 15, 16, 17, 18, 19] (g_mrg [4, 5, 6, 7, 8, 9, 10, 11, 12, 13, 14, 15, 16, 17, 18, 19] S (f_s_collectBlock (g_sel [4, 5, 6, 7, 8, 9, 10, 11, 12, 13, 14, 15, 16, 17, 18, 19] S) (Int32.ofNat p)))) - f_s_copies (g_sel [4, 5, 6, 7, 8, 9, 10, 11, 12, 13, 14, 15, 16, 17, 18, 19] S) = (f_r_collects (g_sel [1] T) (Int32.ofNat p)).1 := by
        rw [e1, e2, k3, Int32.add_comm, Int32.add_sub_cancel]
      refine ⟨?_, Or.inl ⟨?_, ?_, ?_, ?_⟩⟩
      · unfold o_r_collect
        simp only [g_let_def, if_neg v0', y1, if_pos hz, eT]
        exact ⟨o_isBlock _, ro6 hp, w2, k1, trivial⟩
      · unfold o_h_collect
        simp only [g_let_def, if_neg u0, if_pos x3, eS]
        exact ⟨o_isIn _ _, x2, w1, trivial, k2, trivial, trivial⟩
      · unfold f_r_collect
        simp only [g_let_def, if_neg v0', y1, if_pos hz, eT]
        exact w6
      · unfold f_h_collect f_r_collect
        simp only [g_let_def, if_neg u0, if_pos x3, eS, if_neg v0', y1, if_pos hz, eT]
        exact e3
      · unfold f_h_collect f_r_collect
        simp only [g_let_def, if_neg u0, if_pos x3, eS, if_neg v0', y1, if_pos hz, eT]
        exact done_R (c := 116400 * n + 96) (by omega) hc0 (mrgQ k8) w4 w5 (mrg_out _ _) (fun c hc => (g_mrg1 T _).1 c hc)
    · have x3 : ¬ (f_s_stateOf (g_sel [4, 5, 6, 7, 8, 9, 10, 11, 12, 13, 14, 15, 16, 17, 18, 19] mh) (Int32.ofNat p) = 2) := by rw [x1]; exact hz
      refine ⟨?_, Or.inr (Or.inr (⟨?_, ?_, ?_, ?_⟩))⟩
      · unfold o_r_collect
        simp only [g_let_def, if_neg v0', y1, if_neg hz]
        exact ⟨o_isBlock _, ro6 hp, fl_o _ _, trivial⟩
      · unfold ox_h_collect
        simp only [if_neg u0, if_neg x3]
        exact ⟨o_isIn _ _, x2, trivial⟩
      · unfold fx_h_collect
        simp only [if_neg u0, if_neg x3]
      · unfold f_r_collect
        simp only [g_let_def, if_neg v0', y1, if_neg hz]
        exact fl_thrown _ _
      · unfold f_r_collect
        simp only [g_let_def, if_neg v0', y1, if_neg hz]
        exact fl_Rl _ h
theorem op_tidy_ok {n : Nat} {mh mr : gM} (hn : n < 512) (h : Rl n mh mr) (a1 : Int32) : op_tidy (Rl (n + 1)) mh mr a1 := by
  obtain ⟨hR, hT⟩ := selQ h.1
  have hV := hT.1
  obtain ⟨bd1, bd2⟩ := bd hn
  rcases in_c (L := 1) (M := 12) 1 12 a1 (by omega) (by omega) (by omega) rfl rfl with ⟨c1, c3⟩ | ⟨c1, c2, c3⟩ | ⟨k, hk1, hk2, ek, c1, c2, c3⟩
  · refine ⟨?_, Or.inr (⟨?_, ?_, ?_, ?_⟩)⟩
    · unfold o_r_tidy
      simp only [g_let_def, if_pos c3]
      exact ⟨o_in _ _ _, fl_o _ _, trivial⟩
    · unfold ox_h_tidy
      simp only [if_pos c1]
    · unfold fx_h_tidy
      simp only [if_pos c1]
    · unfold f_r_tidy
      simp only [g_let_def, if_pos c3]
      exact fl_thrown _ _
    · unfold f_r_tidy
      simp only [g_let_def, if_pos c3]
      exact fl_Rl _ h
  · refine ⟨?_, Or.inr (⟨?_, ?_, ?_, ?_⟩)⟩
    · unfold o_r_tidy
      simp only [g_let_def, if_pos c3]
      exact ⟨o_in _ _ _, fl_o _ _, trivial⟩
    · unfold ox_h_tidy
      simp only [if_neg c1, if_neg c2]
    · unfold fx_h_tidy
      simp only [if_neg c1, if_neg c2]
    · unfold f_r_tidy
      simp only [g_let_def, if_pos c3]
      exact fl_thrown _ _
    · unfold f_r_tidy
      simp only [g_let_def, if_pos c3]
      exact fl_Rl _ h
  · subst ek
    obtain ⟨w1, w2, w3, w4, w5, w6, w7, w8, w9, w10, w11⟩ := saved_R h
    generalize eS : f_h_saveState mh = S at *
    generalize eT : f_r_saves (g_set mr 0 (upd (mr 0) 6 (0 : Int32))) = T at *
    have hq := selQ w3
    have hc1 : 116400 * n + 97 * 40 ≤ 116400 * (n + 1) := by omega
    have hc0 : 116400 * n ≤ 116400 * (n + 1) := by omega
    obtain ⟨k1, k2, c, x, k3, k4, k5, k6, k7, k8, -⟩ := frees_RS (mr := g_sel [1] T) (many := k) (aR_sel1 T) hq.1 hq.2.1 (by omega) hq.2.2.2 (by omega) (by omega)
    have k9 := jT_M hq.2 k7 k8 k3
    have k10 : jQ (116400 * n + 96) (8 * (116400 * n + 96)) (f_s_collectVictims (g_sel [4, 5, 6, 7, 8, 9, 10, 11, 12, 13, 14, 15, 16, 17, 18, 19] S) (Int32.ofNat k)).2 (vA ((g_mrg [1] T (f_r_frees (g_sel [1] T) (Int32.ofNat k)).2) 1)) := jQ_up ⟨k6, k9⟩ (by omega) (by omega)
    obtain ⟨⟨-, -, -, -, m4⟩, -, -, -, -, m9⟩ := k8
    have hx0 : (0 : Int32) ≤ (f_r_frees (g_sel [1] T) (Int32.ofNat k)).1 := by rw [k5]; exact (leI (a := 0) (by omega) (by omega)).mpr (by omega)
    have e1 : (f_s_collectVictims (g_sel [4, 5, 6, 7, 8, 9, 10, 11, 12, 13, 14, 15, 16, 17, 18, 19] S) (Int32.ofNat k)).1 = ((g_mrg [1] T (f_r_frees (g_sel [1] T) (Int32.ofNat k)).2) 1 (362 : Int32).toNatClampNeg) - (T 1 (362 : Int32).toNatClampNeg) := by
      have m4' : (g_mrg [1] T (f_r_frees (g_sel [1] T) (Int32.ofNat k)).2) 1 (362 : Int32).toNatClampNeg = T 1 (362 : Int32).toNatClampNeg + Int32.ofNat c := m4
      rw [m4', k4, Int32.add_comm, Int32.add_sub_cancel]
    refine ⟨?_, Or.inl ⟨?_, ?_, ?_, ?_⟩⟩
    · unfold o_r_tidy
      simp only [g_let_def, if_neg c3, if_pos hx0, eT]
      exact ⟨o_in _ _ _, w2, k1, trivial⟩
    · unfold o_h_tidy
      simp only [g_let_def, if_neg c1, if_pos c2, eS]
      exact ⟨w1, k2, trivial⟩
    · unfold f_r_tidy
      simp only [g_let_def, if_neg c3, if_pos hx0, eT]
      exact w6
    · unfold f_h_tidy f_r_tidy
      simp only [g_let_def, if_neg c1, if_pos c2, eS, if_neg c3, if_pos hx0, eT]
      exact e1
    · unfold f_h_tidy f_r_tidy
      simp only [g_let_def, if_neg c1, if_pos c2, eS, if_neg c3, if_pos hx0, eT]
      exact done_R (c := 116400 * n + 96) (by omega) hc0 (mrgQ k10) w4 w5 (mrg_out _ _) (fun c hc => (g_mrg1 T _).1 c hc)
theorem set_RS {m A : gM} {e t i : Nat} {x : Int32} (hQ : jQ e t m A) (hi : (i = 0 ∧ (x = 0 ∨ x = 1 ∨ x = 2)) ∨ (i = 1 ∧ (x = 2 ∨ x = 3 ∨ x = 4))) : jQ e t (g_set m 15 (upd (m 15) i x)) (sIn A 13 i x) := by
  obtain ⟨hR, hV, hW, hF⟩ := hQ
  have hs : jS (sIn A 13 i x) := by
    obtain ⟨-, -, -, -, -, -, -, -, -, s0, s1⟩ := hV
    rcases hi with ⟨rfl, hx⟩ | ⟨rfl, hx⟩
    · exact ⟨hx, s1⟩
    · exact ⟨s0, hx⟩
  have h5 : sIn A 13 i x 13 5 = A 13 5 := by
    show upd (A 13) i x 5 = _; rw [upd_at, if_neg (by omega)]
  have hj : ∀ j, j ≠ 0 → j ≠ 1 → sIn A 13 i x 13 j = A 13 j := fun j h0 h1 => by
    show upd (A 13) i x j = _; rw [upd_at, if_neg (by omega)]
  refine ⟨?_, jV_c (A := A) rfl rfl rfl rfl rfl rfl rfl rfl h5 hs hV, ?_, hF⟩
  · obtain ⟨R1, R2, R3, R4, R5, R6, R7, R8, R9⟩ := hR
    refine ⟨R1, R2, ?_, R4, R5, ?_, ?_, R8, ?_⟩
    · rw [show cN (sIn A 13 i x) = cN A from cN_c rfl, show vL (sIn A 13 i x) = vL A from vL_c rfl rfl]; exact R3
    · show upd (m 15) i x 0 = upd (A 13) i x 0; rw [upd_at, upd_at, R6]
    · show upd (m 15) i x 1 = upd (A 13) i x 1; rw [upd_at, upd_at, R7]
    · rw [h5]; exact R9
  · obtain ⟨q1, q2, q3, q4, q5⟩ := hW
    unfold jW
    rw [hj 2 (by omega) (by omega), hj 3 (by omega) (by omega), hj 4 (by omega) (by omega)]
    exact ⟨q1, q2, q3, q4, q5⟩
theorem op_set_ok {n : Nat} {mh mr : gM} (hn : n < 512) (h : Rl n mh mr) (a1 a2 : Int32) : op_set (Rl (n + 1)) mh mr a1 a2 := by
  obtain ⟨hR, hT⟩ := selQ h.1
  have hV := hT.1
  obtain ⟨bd1, bd2⟩ := bd hn
  rcases isIn_c (M := 2) (L := 1) 2 a1 (by omega) (by omega) rfl rfl with ⟨u0, v0⟩ | ⟨p, hp, ep, u0, v0⟩
  · have v0' : f_r_in a1 (0 : Int32) (1 : Int32) = 0 := v0
    refine ⟨?_, Or.inr (Or.inl ⟨?_, ?_, ?_, ?_⟩)⟩
    · unfold o_r_set
      simp only [g_let_def, if_pos v0']
      exact ⟨o_in _ _ _, fl_o _ _, trivial⟩
    · unfold ox_h_set
      simp only [if_pos u0]
      exact ⟨o_isIn _ _, trivial⟩
    · unfold fx_h_set
      simp only [if_pos u0]
    · unfold f_r_set
      simp only [g_let_def, if_pos v0']
      exact fl_thrown _ _
    · unfold f_r_set
      simp only [g_let_def, if_pos v0']
      exact fl_Rl _ h
  · have v0' : ¬ (f_r_in a1 (0 : Int32) (1 : Int32) = 0) := v0
    subst ep
    have r358 : vp_in ((358 : Int32) + Int32.ofNat p) 364 := by rw [show (358 : Int32) = Int32.ofNat 358 from rfl, nI_plus2]; exact vp_in_nI (by omega) (by omega)
    have i358 : ((358 : Int32) + Int32.ofNat p).toNatClampNeg = 358 + p := by rw [show (358 : Int32) = Int32.ofNat 358 from rfl, nI_plus2, nI_ix (by omega)]
    have vp := vp_in_nI hp (show 2 < 2 ^ 31 by omega)
    have ip := nI_ix (show p < 2147483648 by omega)
    have hset : ∀ x : Int32, ((p = 0 ∧ (x = 0 ∨ x = 1 ∨ x = 2)) ∨ (p = 1 ∧ (x = 2 ∨ x = 3 ∨ x = 4))) → ∀ (S T : gM), jQ (116400 * n) (8 * (116400 * n)) (g_sel [4, 5, 6, 7, 8, 9, 10, 11, 12, 13, 14, 15, 16, 17, 18, 19] S) (vA (T 1)) → S 19 p = T 1 (358 + p) ∧ hQ (116400 * n) 4 (g_set S 19 (upd (S 19) p x)) ((g_set T 1 (upd (T 1) (358 + p) x)) 1) := by
      intro x hx S T hq
      have k1 := set_RS hq hx
      have hT1 : vA ((g_set T 1 (upd (T 1) (358 + p) x)) 1) = sIn (vA (T 1)) 13 p x := by
        rw [g_set_s, show 358 + p = fB 13 + fS 13 * p from by show 358 + p = 358 + 1 * p; omega, vA_upd _ _ (show p < fL 13 from Nat.lt_of_lt_of_le hp (by decide))]; rfl
      rw [← hT1] at k1
      refine ⟨?_, jR_cell (m := g_set (g_sel [4, 5, 6, 7, 8, 9, 10, 11, 12, 13, 14, 15, 16, 17, 18, 19] S) 15 (upd ((g_sel [4, 5, 6, 7, 8, 9, 10, 11, 12, 13, 14, 15, 16, 17, 18, 19] S) 15) p x)) (fun k z1 z2 => ?_) rfl rfl k1.1, k1.2⟩
      · have r6 := hq.1.2.2.2.2.2.1
        have r7 := hq.1.2.2.2.2.2.2.1
        match p, hp with
        | 0, _ => exact r6
        | 1, _ => exact r7
        | n + 2, z => omega
      · match k, z1, z2 with
        | 1, _, _ => rfl
        | 2, _, _ => rfl
        | 3, _, _ => rfl
        | 4, _, _ => rfl
        | 5, _, _ => rfl
        | 6, _, _ => rfl
        | 7, _, _ => rfl
        | 8, _, _ => rfl
        | 9, _, _ => rfl
        | 10, _, _ => rfl
        | 11, _, _ => rfl
        | 12, _, _ => rfl
        | 13, _, _ => rfl
        | 14, _, _ => rfl
        | 15, _, _ => rfl
        | n + 16, _, z => omega
        | 0, z, _ => omega
    by_cases p0 : p = 0
    · subst p0
      have e00 : Int32.ofNat 0 = (0 : Int32) := rfl
      have f1 : f_h_isSettingValue (Int32.ofNat 0) a2 = f_h_isIn a2 (3 : Int32) := rfl
      have f2 : o_h_isSettingValue (Int32.ofNat 0) a2 := ⟨o_isIn _ _, isIn01 _ _, trivial⟩
      rcases isIn_c (M := 3) (L := 2) 3 a2 (by omega) (by omega) rfl rfl with ⟨u1, v1⟩ | ⟨q, hqq, eq, u1, v1⟩
      · have u1' : f_h_isSettingValue (Int32.ofNat 0) a2 = 0 := u1
        refine ⟨?_, Or.inr (Or.inr (⟨?_, ?_, ?_, ?_⟩))⟩
        · unfold o_r_set
          simp only [g_let_def, if_neg v0', if_pos e00, if_pos v1]
          exact ⟨o_in _ _ _, o_in _ _ _, fl_o _ _, trivial⟩
        · unfold ox_h_set
          simp only [if_neg u0, if_pos u1']
          exact ⟨o_isIn _ _, f2, trivial⟩
        · unfold fx_h_set
          simp only [if_neg u0, if_pos u1']
        · unfold f_r_set
          simp only [g_let_def, if_neg v0', if_pos e00, if_pos v1]
          exact fl_thrown _ _
        · unfold f_r_set
          simp only [g_let_def, if_neg v0', if_pos e00, if_pos v1]
          exact fl_Rl _ h
      · have u1' : ¬ (f_h_isSettingValue (Int32.ofNat 0) a2 = 0) := u1
        obtain ⟨w1, w2, w3, w4, w5, w6, w7, w8, w9, w10, w11⟩ := saved_R h
        generalize eS : f_h_saveState mh = S at *
        generalize eT : f_r_saves (g_set mr 0 (upd (mr 0) 6 (0 : Int32))) = T at *
        have hq := selQ w3
        have hc1 : 116400 * n + 97 * 40 ≤ 116400 * (n + 1) := by omega
        have hc0 : 116400 * n ≤ 116400 * (n + 1) := by omega
        obtain ⟨k1, k2⟩ := hset a2 (Or.inl ⟨rfl, by
          rw [eq]
          match q, hqq with
          | 0, _ => exact Or.inl rfl
          | 1, _ => exact Or.inr (Or.inl rfl)
          | 2, _ => exact Or.inr (Or.inr rfl)
          | n + 3, z => omega⟩) S T hq
        refine ⟨?_, Or.inl ⟨?_, ?_, ?_, ?_⟩⟩
        · unfold o_r_set
          simp only [g_let_def, if_neg v0', if_pos e00, if_neg v1, i358, eT]
          exact ⟨o_in _ _ _, o_in _ _ _, w2, r358, r358, trivial⟩
        · unfold o_h_set
          simp only [g_let_def, if_neg u0, if_neg u1', ip, eS]
          exact ⟨o_isIn _ _, f2, w1, vp, vp, trivial⟩
        · unfold f_r_set
          simp only [g_let_def, if_neg v0', if_pos e00, if_neg v1, i358, eT]
          exact w6
        · unfold f_h_set f_r_set
          simp only [g_let_def, if_neg u0, if_neg u1', ip, eS, if_neg v0', if_pos e00, if_neg v1, i358, eT]
          exact k1
        · unfold f_h_set f_r_set
          simp only [g_let_def, if_neg u0, if_neg u1', ip, eS, if_neg v0', if_pos e00, if_neg v1, i358, eT]
          exact done_R hc0 hc0 k2 w4 w5 (fun c hc => g_set_n (by omega)) (fun c hc => g_set_n hc)
    · have p1 : p = 1 := by omega
      subst p1
      have e10 : ¬ (Int32.ofNat 1 = (0 : Int32)) := by decide
      have f1 : f_h_isSettingValue (Int32.ofNat 1) a2 = f_r_in a2 (2 : Int32) (4 : Int32) := rfl
      have f2 : o_h_isSettingValue (Int32.ofNat 1) a2 := by
        unfold o_h_isSettingValue
        rw [if_neg e10]
        split
        · trivial
        · split <;> trivial
      rcases in_c (L := 2) (M := 4) 2 4 a2 (by omega) (by omega) (by omega) rfl rfl with ⟨-, c3⟩ | ⟨-, -, c3⟩ | ⟨k, hk1, hk2, ek, -, -, c3⟩
      · have u1' : f_h_isSettingValue (Int32.ofNat 1) a2 = 0 := c3
        refine ⟨?_, Or.inr (Or.inr (⟨?_, ?_, ?_, ?_⟩))⟩
        · unfold o_r_set
          simp only [g_let_def, if_neg v0', if_neg e10, if_pos c3]
          exact ⟨o_in _ _ _, o_in _ _ _, fl_o _ _, trivial⟩
        · unfold ox_h_set
          simp only [if_neg u0, if_pos u1']
          exact ⟨o_isIn _ _, f2, trivial⟩
        · unfold fx_h_set
          simp only [if_neg u0, if_pos u1']
        · unfold f_r_set
          simp only [g_let_def, if_neg v0', if_neg e10, if_pos c3]
          exact fl_thrown _ _
        · unfold f_r_set
          simp only [g_let_def, if_neg v0', if_neg e10, if_pos c3]
          exact fl_Rl _ h
      · have u1' : f_h_isSettingValue (Int32.ofNat 1) a2 = 0 := c3
        refine ⟨?_, Or.inr (Or.inr (⟨?_, ?_, ?_, ?_⟩))⟩
        · unfold o_r_set
          simp only [g_let_def, if_neg v0', if_neg e10, if_pos c3]
          exact ⟨o_in _ _ _, o_in _ _ _, fl_o _ _, trivial⟩
        · unfold ox_h_set
          simp only [if_neg u0, if_pos u1']
          exact ⟨o_isIn _ _, f2, trivial⟩
        · unfold fx_h_set
          simp only [if_neg u0, if_pos u1']
        · unfold f_r_set
          simp only [g_let_def, if_neg v0', if_neg e10, if_pos c3]
          exact fl_thrown _ _
        · unfold f_r_set
          simp only [g_let_def, if_neg v0', if_neg e10, if_pos c3]
          exact fl_Rl _ h
      · have u1' : ¬ (f_h_isSettingValue (Int32.ofNat 1) a2 = 0) := c3
        obtain ⟨w1, w2, w3, w4, w5, w6, w7, w8, w9, w10, w11⟩ := saved_R h
        generalize eS : f_h_saveState mh = S at *
        generalize eT : f_r_saves (g_set mr 0 (upd (mr 0) 6 (0 : Int32))) = T at *
        have hq := selQ w3
        have hc1 : 116400 * n + 97 * 40 ≤ 116400 * (n + 1) := by omega
        have hc0 : 116400 * n ≤ 116400 * (n + 1) := by omega
        obtain ⟨k1, k2⟩ := hset a2 (Or.inr ⟨rfl, by
          rw [ek]
          match k, hk1, hk2 with
          | 2, _, _ => exact Or.inl rfl
          | 3, _, _ => exact Or.inr (Or.inl rfl)
          | 4, _, _ => exact Or.inr (Or.inr rfl)
          | 0, z, _ => omega
          | 1, z, _ => omega
          | n + 5, _, z => omega⟩) S T hq
        refine ⟨?_, Or.inl ⟨?_, ?_, ?_, ?_⟩⟩
        · unfold o_r_set
          simp only [g_let_def, if_neg v0', if_neg e10, if_neg c3, i358, eT]
          exact ⟨o_in _ _ _, o_in _ _ _, w2, r358, r358, trivial⟩
        · unfold o_h_set
          simp only [g_let_def, if_neg u0, if_neg u1', ip, eS]
          exact ⟨o_isIn _ _, f2, w1, vp, vp, trivial⟩
        · unfold f_r_set
          simp only [g_let_def, if_neg v0', if_neg e10, if_neg c3, i358, eT]
          exact w6
        · unfold f_h_set f_r_set
          simp only [g_let_def, if_neg u0, if_neg u1', ip, eS, if_neg v0', if_neg e10, if_neg c3, i358, eT]
          exact k1
        · unfold f_h_set f_r_set
          simp only [g_let_def, if_neg u0, if_neg u1', ip, eS, if_neg v0', if_neg e10, if_neg c3, i358, eT]
          exact done_R hc0 hc0 k2 w4 w5 (fun c hc => g_set_n (by omega)) (fun c hc => g_set_n hc)
theorem op_undo_ok {n : Nat} {mh mr : gM} (h : Rl n mh mr) : op_undo (Rl (n + 1)) mh mr := by
  have h0 := h
  obtain ⟨h1, ⟨k, hk, h2⟩, h3⟩ := h0
  match k, hk, h2 with
  | 0, _, h2 =>
    have a1 : ¬ (0 < mh 0 3) := by rw [h2.1]; decide
    have a2 : (g_set mr 0 (upd (mr 0) 6 (0 : Int32))) 0 3 = 0 := h2.2.1
    refine ⟨?_, Or.inr ⟨?_, ?_, ?_, ?_⟩⟩
    · unfold o_r_undo
      simp only [g_let_def, if_pos a2]
      exact ⟨fl_o _ _, trivial⟩
    · unfold ox_h_undo
      simp only [if_neg a1]
    · unfold fx_h_undo
      simp only [if_neg a1]
    · unfold f_r_undo
      simp only [g_let_def, if_pos a2]
      exact fl_thrown _ _
    · unfold f_r_undo
      simp only [g_let_def, if_pos a2]
      exact fl_Rl _ h
  | k + 1, hk, h2 =>
    obtain ⟨p1, ⟨p2, p3, p4⟩, p5⟩ := undo_h (show k < 6 by omega) h2.1
    obtain ⟨q1, q2, q3, q4, q5, q6, q7⟩ := undo_r (show k < 6 by omega) h2.2.1
    obtain ⟨u1, u2⟩ := undo_R (show k < 6 by omega) h2
    have hc : 116400 * n ≤ 116400 * (n + 1) := by omega
    refine ⟨q7, Or.inl ⟨p5, q2, p1.trans q1.symm, hQ_up u1 hc, ⟨k, by omega, rSv_up u2 hc⟩, ?_⟩⟩
    exact rTx_same (p3 2 (by omega) (by omega) (by omega) (by omega)) (by rw [p4, upd_at, if_neg (by decide)]) (q5 4 (by decide) (by decide)) (q4 5 (by decide) (by decide)) h3
theorem op_append_ok {n : Nat} {mh mr : gM} (h : Rl n mh mr) (a1 : Int32) : op_append (Rl (n + 1)) mh mr a1 := by
  have h0 := h
  obtain ⟨g1, g2, l, hl, t1, t2, t3⟩ := h0
  rcases in_c (L := 33) (M := 126) 33 126 a1 (by omega) (by omega) (by omega) rfl rfl with ⟨c1, c3⟩ | ⟨c1, c2, c3⟩ | ⟨k, hk1, hk2, ek, c1, c2, c3⟩
  · refine ⟨?_, Or.inr (Or.inl ⟨?_, ?_, ?_, ?_⟩)⟩
    · unfold o_r_append
      simp only [g_let_def, if_pos c3]
      exact ⟨o_in _ _ _, fl_o _ _, trivial⟩
    · unfold ox_h_append
      simp only [if_pos c1]
    · unfold fx_h_append
      simp only [if_pos c1]
    · unfold f_r_append
      simp only [g_let_def, if_pos c3]
      exact fl_thrown _ _
    · unfold f_r_append
      simp only [g_let_def, if_pos c3]
      exact fl_Rl _ h
  · refine ⟨?_, Or.inr (Or.inl ⟨?_, ?_, ?_, ?_⟩)⟩
    · unfold o_r_append
      simp only [g_let_def, if_pos c3]
      exact ⟨o_in _ _ _, fl_o _ _, trivial⟩
    · unfold ox_h_append
      simp only [if_neg c1, if_neg c2]
    · unfold fx_h_append
      simp only [if_neg c1, if_neg c2]
    · unfold f_r_append
      simp only [g_let_def, if_pos c3]
      exact fl_thrown _ _
    · unfold f_r_append
      simp only [g_let_def, if_pos c3]
      exact fl_Rl _ h
  · have t2' : (g_set mr 0 (upd (mr 0) 6 (0 : Int32))) 0 5 = Int32.ofNat l := t2
    by_cases h60 : l = 60
    · have d1 : ¬ (mh 0 5 < (60 : Int32)) := by rw [t1, h60]; decide
      have d2 : (g_set mr 0 (upd (mr 0) 6 (0 : Int32))) 0 5 = (60 : Int32) := by rw [t2', h60]; rfl
      refine ⟨?_, Or.inr (Or.inr (⟨?_, ?_, ?_, ?_⟩))⟩
      · unfold o_r_append
        simp only [g_let_def, if_neg c3, if_pos d2]
        exact ⟨o_in _ _ _, fl_o _ _, trivial⟩
      · unfold ox_h_append
        simp only [if_neg c1, if_pos c2, if_neg d1]
      · unfold fx_h_append
        simp only [if_neg c1, if_pos c2, if_neg d1]
      · unfold f_r_append
        simp only [g_let_def, if_neg c3, if_pos d2]
        exact fl_thrown _ _
      · unfold f_r_append
        simp only [g_let_def, if_neg c3, if_pos d2]
        exact fl_Rl _ h
    · have d1 : mh 0 5 < (60 : Int32) := by rw [t1]; exact (ltI (b := 60) (by omega) (by omega)).mpr (by omega)
      have d2 : ¬ ((g_set mr 0 (upd (mr 0) 6 (0 : Int32))) 0 5 = (60 : Int32)) := by rw [t2']; exact fun w => h60 (nI_inj (b := 60) (by omega) (by omega) w)
      have hl60 : l < 60 := by omega
      have vl := vp_in_nI hl60 (show 60 < 2 ^ 31 by omega)
      have il1 : (mh 0 5).toNatClampNeg = l := by rw [t1]; exact nI_ix (by omega)
      have il2 : ((g_set mr 0 (upd (mr 0) 6 (0 : Int32))) 0 5).toNatClampNeg = l := by rw [t2']; exact nI_ix (by omega)
      have hfin : Rl (n + 1) (g_set (g_set mh 2 (upd (mh 2) l a1)) 0 (upd ((g_set mh 2 (upd (mh 2) l a1)) 0) 5 (((g_set mh 2 (upd (mh 2) l a1)) 0 5) + (1 : Int32)))) (g_set (g_set (g_set mr 0 (upd (mr 0) 6 (0 : Int32))) 4 (upd ((g_set mr 0 (upd (mr 0) 6 (0 : Int32))) 4) l a1)) 0 (upd ((g_set (g_set mr 0 (upd (mr 0) 6 (0 : Int32))) 4 (upd ((g_set mr 0 (upd (mr 0) 6 (0 : Int32))) 4) l a1)) 0) 5 (((g_set (g_set mr 0 (upd (mr 0) 6 (0 : Int32))) 4 (upd ((g_set mr 0 (upd (mr 0) 6 (0 : Int32))) 4) l a1)) 0 5) + (1 : Int32)))) := by
        have hc : 116400 * n ≤ 116400 * (n + 1) := by omega
        obtain ⟨k', hk', g2⟩ := g2
        have u1 := hQ_up g1 hc
        refine ⟨hQ_cell (b := 4) (m := mh) (r := mr 1) (fun j hj1 hj2 => ?_) rfl rfl (fun j _ => rfl) u1, ⟨k', hk', rSv_up (rSv_same (mh := mh) (mr := mr) rfl (fun x hx1 hx2 => by rw [g_set_n (by omega), g_set_n (by omega)]) rfl rfl hk' g2) hc⟩, l + 1, by omega, ?_, ?_, fun i hi => ?_⟩
        · rw [g_set_n (by omega), g_set_n (by omega)]
        · show mh 0 5 + 1 = _; rw [t1, e1r]
        · show mr 0 5 + 1 = _; rw [t2, e1r]
        · show upd (mh 2) l a1 i = upd (mr 4) l a1 i ∧ ∃ c, 33 ≤ c ∧ c ≤ 126 ∧ upd (mr 4) l a1 i = Int32.ofNat c
          rw [upd_at, upd_at]
          by_cases w : i = l
          · rw [if_pos w, if_pos w]; exact ⟨rfl, k, hk1, hk2, ek⟩
          · rw [if_neg w, if_neg w]; exact t3 i (by omega)
      refine ⟨?_, Or.inl ⟨?_, ?_, ?_, ?_⟩⟩
      · unfold o_r_append
        simp only [g_let_def, if_neg c3, if_neg d2]
        exact ⟨o_in _ _ _, by rw [t2']; exact vl, trivial⟩
      · unfold o_h_append
        simp only [g_let_def, if_neg c1, if_pos c2, if_pos d1]
        exact ⟨by rw [t1]; exact vl, trivial⟩
      · unfold f_r_append
        simp only [g_let_def, if_neg c3, if_neg d2]
        rfl
      · unfold f_h_append f_r_append
        simp only [g_let_def, if_neg c1, if_pos c2, if_pos d1, if_neg c3, if_neg d2]
        show mh 0 5 + 1 = mr 0 5 + 1
        rw [t1, t2]
      · unfold f_h_append f_r_append
        simp only [g_let_def, if_neg c1, if_pos c2, if_pos d1, if_neg c3, if_neg d2, il1, il2]
        exact hfin
theorem op_clearBuffer_ok {n : Nat} {mh mr : gM} (h : Rl n mh mr) : op_clearBuffer (Rl (n + 1)) mh mr := by
  obtain ⟨g1, ⟨k', hk', g2⟩, l, hl, t1, t2, t3⟩ := h
  have hc : 116400 * n ≤ 116400 * (n + 1) := by omega
  unfold op_clearBuffer f_h_clearBuffer o_h_clearBuffer f_r_clearBuffer o_r_clearBuffer
  simp only [g_let_def]
  refine ⟨trivial, trivial, ?_, ?_⟩
  · show mh 0 5 = mr 0 5
    rw [t1, t2]
  · refine ⟨hQ_cell (b := 4) (m := mh) (r := mr 1) (fun j hj1 hj2 => ?_) rfl rfl (fun j _ => rfl) (hQ_up g1 hc), ⟨k', hk', rSv_up (rSv_same (mh := mh) (mr := mr) rfl (fun x hx1 hx2 => by rw [g_set_n (by omega)]) rfl rfl hk' g2) hc⟩, 0, by omega, rfl, rfl, fun i hi => by omega⟩
    rw [g_set_n (by omega)]
