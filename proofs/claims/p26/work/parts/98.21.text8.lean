/-! writeAll, the call -/
theorem selQi {c : Nat} {mh : gM} {r : Nat → Int32} (h : jQ c (8 * c) (g_sel [4, 5, 6, 7, 8, 9, 10, 11, 12, 13, 14, 15, 16, 17, 18, 19] mh) (vA r)) : hQ c 4 mh r := by
  refine ⟨jR_cell (m := g_sel [4, 5, 6, 7, 8, 9, 10, 11, 12, 13, 14, 15, 16, 17, 18, 19] mh) (fun k h1 h2 => ?_) rfl rfl h.1, h.2⟩
  match k, h1, h2 with
  | 1, _, _ => rfl
  | 2, _, _ => rfl
  | 3, _, _ => rfl
  | 4, _, _ => rfl
  | 5, _, _ => rfl
  | 6, _, _ => rfl
  | 7, _, _ => rfl
  | 8, _, _ => rfl
  | 9, _, _ => rfl
  | 10, _, _ => rfl
  | 11, _, _ => rfl
  | 12, _, _ => rfl
  | 13, _, _ => rfl
  | 14, _, _ => rfl
  | 15, _, _ => rfl
  | n + 16, _, h => omega
  | 0, h, _ => omega
theorem wall_ok {n L t : Nat} {tx : Nat → Nat} {st : Nat → Nat} {B R : gM} (hn : n < 512) (h : Rl n B R) (hb : bfR L tx B) (ht : R 0 10 = Int32.ofNat t) (htx : txt L tx (R 5) t st) :
    o_h_saveState B ∧ o_r_saves R ∧ o_d_restart (g_sel [3] (f_h_saveState B)) ∧ rOk L_h_writeAll_46 K_h_writeAll_46 400 ((0 : Int32), (0 : Int32), g_mrg [3] (f_h_saveState B) (f_d_restart (g_sel [3] (f_h_saveState B)))) ∧
    rOk (L_r_writeAll_38 (g_set (f_r_saves R) 0 (upd (f_r_saves R 0) 5 (0 : Int32)) 1 (360 : Int32).toNatClampNeg)) (K_r_writeAll_38 (g_set (f_r_saves R) 0 (upd (f_r_saves R 0) 5 (0 : Int32)) 1 (360 : Int32).toNatClampNeg)) 400 ((0 : Int32), g_set (f_r_saves R) 0 (upd (f_r_saves R 0) 5 (0 : Int32))) ∧
    ∀ (W : Int32 × Int32 × gM) (V : Int32 × gM), W = run L_h_writeAll_46 400 ((0 : Int32), (0 : Int32), g_mrg [3] (f_h_saveState B) (f_d_restart (g_sel [3] (f_h_saveState B)))) → V = run (L_r_writeAll_38 (g_set (f_r_saves R) 0 (upd (f_r_saves R 0) 5 (0 : Int32)) 1 (360 : Int32).toNatClampNeg)) 400 ((0 : Int32), g_set (f_r_saves R) 0 (upd (f_r_saves R 0) 5 (0 : Int32))) →
      V.2 0 6 = R 0 6 ∧ W.1 = V.2 1 (360 : Int32).toNatClampNeg - g_set (f_r_saves R) 0 (upd (f_r_saves R 0) 5 (0 : Int32)) 1 (360 : Int32).toNatClampNeg ∧ Rl (n + 1) (g_set W.2.2 0 (upd (W.2.2 0) 5 (0 : Int32))) V.2 := by
  obtain ⟨h1, ⟨k0, hk0, h2⟩, h3⟩ := h
  obtain ⟨a1, a2, ⟨k', hk1, hk2, a3⟩, b1, b2, b3, b4⟩ := save_R h1 hk0 h2
  have hq : hQ (116400 * n) 4 (f_h_saveState B) (f_r_saves R 1) := by
    rw [b3 1 (by decide) (by decide)]
    exact hQ_cell (b := 4) (m := B) (fun j hj1 hj2 => b1 _ (by omega) (by omega)) (congrFun (b1 4 (by omega) (by omega)) 15) (congrFun (b1 4 (by omega) (by omega)) 16) (fun _ _ => rfl) h1
  generalize eS : f_h_saveState B = S at *
  generalize eT : f_r_saves R = T at *
  have hz := restart_d (g_sel [3] S)
  have hgm := g_mrg3 S (f_d_restart (g_sel [3] S))
  generalize eX : f_d_restart (g_sel [3] S) = X at *
  generalize eY : g_mrg [3] S X = Y at *
  have z5 : ∀ y, y ≠ 0 → g_set T 0 (upd (T 0) 5 (0 : Int32)) y = T y := fun y hy => g_set_n hy
  have z0 : ∀ f, f ≠ 5 → g_set T 0 (upd (T 0) 5 (0 : Int32)) 0 f = T 0 f := fun f hf => by rw [g_set_s, upd_at, if_neg hf]
  have z05 : g_set T 0 (upd (T 0) 5 (0 : Int32)) 0 5 = 0 := by rw [g_set_s, upd_at, if_pos rfl]
  generalize eZ : g_set T 0 (upd (T 0) 5 (0 : Int32)) = Z at *
  have e5 : Z 5 = R 5 := by rw [z5 5 (by decide), b3 5 (by decide) (by decide)]
  have e1 : Z 1 = T 1 := z5 1 (by decide)
  have wq : wK (116400 * n) (vA (T 1)) (Z 1 (360 : Int32).toNatClampNeg) Z (Z 5) 0 0 S := by
    refine ⟨⟨0, ?_⟩, fun _ _ => rfl, by omega⟩
    show wS (116400 * n) 0 0 (vA (T 1)) (g_sel [4, 5, 6, 7, 8, 9, 10, 11, 12, 13, 14, 15, 16, 17, 18, 19] S) (vA (Z 1))
    rw [e1]
    exact wS_0 (selQ hq)
  have wY : wK (116400 * n) (vA (T 1)) (Z 1 (360 : Int32).toNatClampNeg) Z (Z 5) 0 0 Y := wK_cell (fun y y1 y2 => hgm.1 y (by omega)) wq
  have bY : bfR L tx Y := by
    obtain ⟨q1, q2, q3⟩ := hb
    refine ⟨?_, q2, fun i hi => ?_⟩
    · rw [hgm.1 0 (by decide), b2 5 (by decide)]; exact q1
    · rw [hgm.1 2 (by decide), b1 2 (by decide) (by decide)]; exact q3 i hi
  have rY : rdR (g_sel [3] Y) 0 0 0 0 := by
    refine ⟨?_, fun z => absurd rfl z⟩
    show Y 3 0 = Int32.ofNat 0
    rw [hgm.2, hz.1]; rfl
  have htz : txt L tx (Z 5) t st := by rw [e5]; exact htx
  obtain ⟨i1, ⟨N, i2, i3, i4⟩, i5⟩ := in46 (x1 := Z 1 (360 : Int32).toNatClampNeg) htz bY rY wY (by omega)
  have ht30 : t ≤ 30 := htx.2.1
  have hall : ∀ k, k ≤ t → ∀ y, y ≠ 1 → rqk (Z 1 (360 : Int32).toNatClampNeg) Z (Z 5) k y = Z y := fun k hk y hy => by
    rcases Nat.lt_or_ge k t with q | q
    · exact (i5 k q).2 y hy
    · have : k = t := by omega
      subst this
      exact i3.2.1 y hy
  obtain ⟨j1, j2⟩ := in38 (x1 := Z 1 (360 : Int32).toNatClampNeg) (Z := Z) (T := Z 5) ht30 (fun k hk => by rw [hall k hk 0 (by decide), z0 10 (by decide), b4 10 (by decide), ht]) (fun k hk => by rw [hall k (by omega) 5 (by decide)]) (fun k hk => (i5 k hk).1)
  refine ⟨a1, a2, hz.2, i1, j1, fun W V hW hV => ?_⟩
  rw [← hW] at i2 i3 i4
  rw [← hV] at j2
  obtain ⟨⟨x, w1, w2, w3, w4, w5⟩, w6, w7⟩ := i3
  have v0 : ∀ f, V.2 0 f = Z 0 f := fun f => by rw [j2, w6 0 (by decide)]
  refine ⟨?_, ?_, ?_, ⟨k', hk2, ?_⟩, ⟨0, by omega, ?_, ?_, fun i hi => by omega⟩⟩
  · rw [v0, z0 6 (by decide), b4 6 (by decide)]
  · have w4' : rqk (Z 1 (360 : Int32).toNatClampNeg) Z (Z 5) t 1 360 = T 1 360 + Int32.ofNat N := w4
    have e360 : (360 : Int32).toNatClampNeg = 360 := by decide
    rw [i2, j2, e360] 
    rw [e360] at w4'
    rw [w4', e1, sub_same]
  · rw [j2]
    have := hQ_up (selQi w1) (c' := 116400 * (n + 1)) (by omega)
    exact hQ_cell (b := 4) (m := W.2.2) (fun j hj1 hj2 => g_set_n (by omega)) (congrFun (g_set_n (by decide)) 15) (congrFun (g_set_n (by decide)) 16) (fun _ _ => rfl) this
  · refine rSv_up (rSv_same (mh := S) (mr := T) ?_ (fun y y1 y2 => ?_) ?_ ?_ hk2 a3) (by omega)
    · rw [g_set_s, upd_at, if_neg (by decide), i4 0 (by decide) (by omega), hgm.1 0 (by decide)]
    · rw [g_set_n (by omega), i4 y (by omega) (by omega), hgm.1 y (by omega)]
    · rw [v0, z0 3 (by decide)]
    · rw [j2, w6 3 (by decide), z5 3 (by decide)]
  · rw [g_set_s, upd_at, if_pos rfl]; rfl
  · rw [v0, z05]; rfl
theorem op_writeAll_ok {n : Nat} {mh mr : gM} (hn : n < 512) (h : Rl n mh mr) : op_writeAll (Rl (n + 1)) mh mr := by
  obtain ⟨L, tx, hb, t1, t2, t3⟩ := rTx_tx h.2.2
  obtain ⟨k1, i, b, f, l, h', k2, k3, k4, k5, k6, k7⟩ := readBuffer_d hb
  obtain ⟨r1, r2, r3⟩ := isText_R (m := g_set mr 0 (upd (mr 0) 6 (0 : Int32))) (L := L) (tx := tx) t1 t2 t3
  have n10 : ¬ ((1 : Int32) = 0) := by decide
  have hz : Rl n mh (g_set mr 0 (upd (mr 0) 6 (0 : Int32))) := Rl_r (mr := mr) rfl rfl rfl rfl rfl h
  have hf := fr5_Rl hz k7 r2
  have t6 : (f_r_isText (g_set mr 0 (upd (mr 0) 6 (0 : Int32)))).2 0 6 = 0 := by rw [r2.2 6 (by omega) (by omega) (by omega)]; rfl
  have hb1 := hb.1
  have l05 : (f_h_readBuffer mh).2 0 5 = Int32.ofNat L := by rw [k7 0 (by decide)]; exact hb1
  have iL : (∃ s, drn tx (0, 0, 0, 0) 0 L = some s) → i = L := fun ⟨s, hs⟩ => by
    rcases k5 with q | ⟨q1, q2⟩
    · exact q
    · rw [drn_stop k4 (by rw [Nat.zero_add]; exact q2) L q1] at hs; cases hs
  obtain ⟨v1, v2, v3, v4, v5, v6, v7⟩ := drn_vS _ _ vS_0 k4
  have hpw := partWhole_d k6 (by omega) (by omega) (by omega)
  have hRf : Rl (n + 1) (f_h_readBuffer mh).2 (f_r_fails (f_r_isText (g_set mr 0 (upd (mr 0) 6 (0 : Int32)))).2 (1 : Int32)).2 := by
    unfold f_r_fails
    rw [g_let_def]
    exact Rl_r rfl rfl rfl rfl rfl (Rl_up hf (by omega))
  have hbB : bfR L tx (f_h_readBuffer mh).2 := by
    obtain ⟨q1, q2, q3⟩ := hb
    refine ⟨l05, q2, fun i hi => ?_⟩
    rw [k7 2 (by decide)]; exact q3 i hi
  unfold op_writeAll
  generalize eR : f_r_isText (g_set mr 0 (upd (mr 0) 6 (0 : Int32))) = R at *
  generalize eB : f_h_readBuffer mh = B at *
  rcases r3 with ⟨x1, t, st, bq, fq, lq, hqq, x2, x3, x4, x5⟩ | ⟨x1, j, bq, fq, lq, hqq, x2, x3⟩
  · have x1' : ¬ (R.1 = 0) := by rw [x1]; exact n10
    have hiL := iL ⟨_, x4⟩
    subst hiL
    rw [k4] at x4
    obtain ⟨s1, s2, s3, s4⟩ := some4 x4
    have hp : ¬ (f_d_isPartWhole (g_sel [3] B.2) = 0) := by
      rcases hpw.1 with ⟨y1, y2⟩ | ⟨y1, y2⟩
      · rw [y2]; exact n10
      · exact absurd (by rw [s1, s2, s3]; exact x5) y1
    have nlt : ¬ (B.1 < B.2 0 5) := by rw [k2, l05]; exact fun q => by have := (ltI (by omega) (by omega)).mp q; omega
    obtain ⟨g1, g2, g3, g4, g5, g6⟩ := wall_ok hn hf hbB x2 x3
    obtain ⟨p1, p2, p3⟩ := g6 _ _ rfl rfl
    refine ⟨?_, Or.inl ⟨?_, ?_, ?_, ?_⟩⟩
    · unfold o_r_writeAll
      simp only [g_let_def, eR, if_neg x1']
      exact ⟨r1, g2, g5, trivial⟩
    · unfold o_h_writeAll
      simp only [g_let_def, eB, if_neg nlt, if_neg hp]
      exact ⟨k1, hpw.2, g1, g3, g4, trivial⟩
    · unfold f_r_writeAll
      simp only [g_let_def, eR, if_neg x1']
      exact p1.trans t6
    · unfold f_h_writeAll f_r_writeAll
      simp only [g_let_def, eB, eR, if_neg nlt, if_neg hp, if_neg x1']
      exact p2
    · unfold f_h_writeAll f_r_writeAll
      simp only [g_let_def, eB, eR, if_neg nlt, if_neg hp, if_neg x1']
      exact p3
  · have hcl : (B.1 < B.2 0 5) ∨ (¬ (B.1 < B.2 0 5) ∧ f_d_isPartWhole (g_sel [3] B.2) = 0) := by
      rcases x3 with ⟨y1, y2, y3, y4⟩ | ⟨y1, y2, y3⟩
      · have hij : i = j := by
          rcases Nat.lt_trichotomy i j with q | q | q
          · rcases k5 with p | ⟨p1, p2⟩
            · omega
            · have := drn_stop k4 (by rw [Nat.zero_add]; exact p2) j q
              rw [x2] at this; cases this
          · exact q
          · have := drn_stop x2 (by rw [Nat.zero_add]; exact y2) i q
            rw [k4] at this; cases this
        left
        rw [k2, l05]
        exact (ltI (by omega) (by omega)).mpr (by omega)
      · subst y1
        have hiL := iL ⟨_, x2⟩
        right
        refine ⟨by rw [k2, l05]; exact fun q => by have := (ltI (by omega) (by omega)).mp q; omega, ?_⟩
        subst hiL
        rw [k4] at x2
        obtain ⟨s1, s2, s3, s4⟩ := some4 x2
        rcases hpw.1 with ⟨q1, q2⟩ | ⟨q1, q2⟩
        · exact absurd (by rw [← s1, ← s2, ← s3]; exact q1) y2
        · exact q2
    refine ⟨?_, Or.inr ⟨?_, ?_, ?_, ?_⟩⟩
    · unfold o_r_writeAll
      simp only [g_let_def, eR, if_pos x1]
      exact ⟨r1, fl_o _ _, trivial⟩
    · unfold ox_h_writeAll
      rcases hcl with c | ⟨c, d⟩
      · simp only [g_let_def, eB, if_pos c]
        exact ⟨k1, trivial⟩
      · simp only [g_let_def, eB, if_neg c, if_pos d]
        exact ⟨k1, hpw.2, trivial⟩
    · unfold fx_h_writeAll
      rcases hcl with c | ⟨c, d⟩
      · simp only [g_let_def, eB, if_pos c]
      · simp only [g_let_def, eB, if_neg c, if_pos d]
    · unfold f_r_writeAll
      simp only [g_let_def, eR, if_pos x1]
      exact fl_thrown _ _
    · have e2 : (fx_h_writeAll mh).2 = B.2 := by
        unfold fx_h_writeAll
        rcases hcl with c | ⟨c, d⟩
        · simp only [g_let_def, eB, if_pos c]
        · simp only [g_let_def, eB, if_neg c, if_pos d]
      rw [e2]
      unfold f_r_writeAll
      simp only [g_let_def, eR, if_pos x1]
      exact hRf
