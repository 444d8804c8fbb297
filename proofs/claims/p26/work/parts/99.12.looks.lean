/-! the looks, by the row alone -/
theorem pageQ {c p w : Nat} {mh : gM} {r : Nat → Int32} {rs : List (Nat → Int32)} (hR : Rq c mh r rs) (hp : p < 40) (hw : w < 6) : o_h_page mh (Int32.ofNat p) (Int32.ofNat w) ∧ f_h_page mh (Int32.ofNat p) (Int32.ofNat w) = f_r_ofPage (m0 r) (Int32.ofNat p) (Int32.ofNat w) := by
  have u0 := isIn_y (M := 40) p hp (by omega) rfl
  have u1 := isIn_y (M := 6) w hw (by omega) rfl
  have hq := selQ hR.1
  obtain ⟨k1, k2, -⟩ := page_RS (M := m0 r) rfl hq.1 hq.2.1 hp hw
  unfold o_h_page f_h_page
  simp only [g_let_def, if_neg u0, if_neg u1]
  exact ⟨⟨o_isIn _ _, o_isIn _ _, k2, trivial⟩, k1⟩
theorem blockQ {c p w : Nat} {mh : gM} {r : Nat → Int32} {rs : List (Nat → Int32)} (hR : Rq c mh r rs) (hp : p < 12) (hw : w < 8) : o_h_block mh (Int32.ofNat p) (Int32.ofNat w) ∧ f_h_block mh (Int32.ofNat p) (Int32.ofNat w) = f_r_ofBlock (m0 r) (Int32.ofNat p) (Int32.ofNat w) := by
  have u0 := isIn_y (M := 12) p hp (by omega) rfl
  have u1 := isIn_y (M := 8) w hw (by omega) rfl
  have hq := selQ hR.1
  obtain ⟨k1, k2, -⟩ := block_RS (M := m0 r) rfl hq.1 hq.2.1 hp hw
  unfold o_h_block f_h_block
  simp only [g_let_def, if_neg u0, if_neg u1]
  exact ⟨⟨o_isIn _ _, o_isIn _ _, k2, trivial⟩, k1⟩
theorem streamQ {c p w : Nat} {mh : gM} {r : Nat → Int32} {rs : List (Nat → Int32)} (hR : Rq c mh r rs) (hp : p < 5) (hw : w < 5) : o_h_stream mh (Int32.ofNat p) (Int32.ofNat w) ∧ f_h_stream mh (Int32.ofNat p) (Int32.ofNat w) = f_r_ofStream (m0 r) (Int32.ofNat p) (Int32.ofNat w) := by
  have u0 := isIn_y (M := 5) p hp (by omega) rfl
  have u1 := isIn_y (M := 5) w hw (by omega) rfl
  have hq := selQ hR.1
  obtain ⟨k1, k2, -⟩ := stream_RS (M := m0 r) rfl hq.1 hq.2.1 hp hw
  unfold o_h_stream f_h_stream
  simp only [g_let_def, if_neg u0, if_neg u1]
  exact ⟨⟨o_isIn _ _, o_isIn _ _, k2, trivial⟩, k1⟩
theorem countQ {c w : Nat} {mh : gM} {r : Nat → Int32} {rs : List (Nat → Int32)} (hR : Rq c mh r rs) (hc : c < 100000000) (hw : w < 11) : o_h_count mh (Int32.ofNat w) ∧ f_h_count mh (Int32.ofNat w) = f_r_counted (m0 r) (Int32.ofNat w) := by
  have u0 := isIn_y (M := 12) w (show w < 12 by omega) (by omega) rfl
  have ne : ¬ (Int32.ofNat w = (11 : Int32)) := fun z => by have := nI_inj (b := 11) (by omega) (by omega) z; omega
  have hq := selQ hR.1
  obtain ⟨k1, k2, -⟩ := total_RS (M := m0 r) rfl hq.1 hq.2 hc (by omega) hw
  unfold o_h_count f_h_count
  simp only [g_let_def, if_neg u0, if_neg ne]
  exact ⟨⟨o_isIn _ _, k2, trivial⟩, k1⟩
theorem count11Q {c : Nat} {mh : gM} {r : Nat → Int32} {rs : List (Nat → Int32)} (hR : Rq c mh r rs) : o_h_count mh 11 ∧ f_h_count mh 11 = Int32.ofNat rs.length := by
  have u0 : ¬ (f_h_isIn (11 : Int32) (12 : Int32) = 0) := isIn_y (N := 12) (M := 12) 11 (by omega) (by omega) rfl
  unfold o_h_count f_h_count
  simp only [g_let_def, if_neg u0, if_true]
  exact ⟨⟨o_isIn _ _, trivial⟩, hR.2.1⟩
theorem settingQ {c i : Nat} {mh : gM} {r : Nat → Int32} {rs : List (Nat → Int32)} (hR : Rq c mh r rs) (hi : i < 2) : o_h_setting mh (Int32.ofNat i) ∧ f_h_setting mh (Int32.ofNat i) = r (358 + i) := by
  have u0 := isIn_y (M := 2) i hi (by omega) rfl
  have hq := selQ hR.1
  have ip := nI_ix (show i < 2147483648 by omega)
  unfold o_h_setting f_h_setting
  simp only [g_let_def, if_neg u0, ip]
  refine ⟨⟨o_isIn _ _, vp_in_nI hi (by omega), trivial⟩, ?_⟩
  rw [← vA_13 r (show i < 6 by omega)]
  match i, hi with
  | 0, _ => exact hq.1.2.2.2.2.2.1
  | 1, _ => exact hq.1.2.2.2.2.2.2.1
  | n + 2, z => omega
theorem vA_0 (r : Nat → Int32) {k : Nat} (hk : k < 96) : vA r 0 k = r k := by
  show (if k < fL 0 then r (fB 0 + fS 0 * k) else 0) = _
  rw [if_pos (show k < fL 0 from hk), show fB 0 + fS 0 * k = k from by show 0 + 1 * k = _; omega]
theorem slotQ0 {c p w : Nat} {mh : gM} {r : Nat → Int32} {rs : List (Nat → Int32)} (hR : Rq c mh r rs) (hp : p < 12) (hw : w < 8) : o_h_slot mh (Int32.ofNat p) (Int32.ofNat w) 0 ∧ f_h_slot mh (Int32.ofNat p) (Int32.ofNat w) 0 = r (8 * p + w) := by
  have u0 := isIn_y (M := 12) p hp (by omega) rfl
  have u1 := isIn_y (M := 8) w hw (by omega) rfl
  have hq := selQ hR.1
  have hk : 8 * p + w < 96 := by omega
  have q2 : Int32.ofNat p * (8 : Int32) + Int32.ofNat w = Int32.ofNat (8 * p + w) := by rw [e8r, nI_plus2]
  unfold o_h_slot f_h_slot
  simp only [g_let_def, if_neg u0, if_neg u1, q2, if_true]
  refine ⟨⟨o_isIn _ _, o_isIn _ _, vp_in_nI hk (by omega), trivial⟩, ?_⟩
  rw [nI_ix (by omega), ← vA_0 r hk]
  exact hq.1.2.1 _ hk
theorem slotQ1 {c p w : Nat} {mh : gM} {r : Nat → Int32} {rs : List (Nat → Int32)} (hR : Rq c mh r rs) (hp : p < 12) (hw : w < 8) : o_h_slot mh (Int32.ofNat p) (Int32.ofNat w) 1 ∧ f_h_slot mh (Int32.ofNat p) (Int32.ofNat w) 1 = (if vd (vA r) (8 * p + w) = 1 then r (8 * p + w) else -1) := by
  have u0 := isIn_y (M := 12) p hp (by omega) rfl
  have u1 := isIn_y (M := 8) w hw (by omega) rfl
  have hq := selQ hR.1
  have hk : 8 * p + w < 96 := by omega
  have q2 : Int32.ofNat p * (8 : Int32) + Int32.ofNat w = Int32.ofNat (8 * p + w) := by rw [e8r, nI_plus2]
  obtain ⟨w1, w2⟩ := validPageAt_S hq.1 hq.2.1.1 hk
  have n10 : ¬ ((1 : Int32) = 0) := by decide
  unfold o_h_slot f_h_slot
  simp only [g_let_def, if_neg u0, if_neg u1, q2, if_neg n10]
  refine ⟨⟨o_isIn _ _, o_isIn _ _, w2, trivial⟩, ?_⟩
  rw [w1, vA_0 r hk]
theorem ifWrittenQ {c p h w : Nat} {mh : gM} {r : Nat → Int32} {rs : List (Nat → Int32)} (hR : Rq c mh r rs) (hp : p < 40) (hh : h < 4) (hw : w < 3) (hc : c + 97 < 100000000) :
    o_h_ifWritten mh (Int32.ofNat p) (Int32.ofNat h) (Int32.ofNat w) ∧ (f_h_ifWritten mh (Int32.ofNat p) (Int32.ofNat h) (Int32.ofNat w)).1 = (if w = 0 then wrow h r p 1 361 - r 361 else if w = 1 then wrow h r p 1 (144 + 5 * p) / 8 else wrow h r p 1 362 - r 362) ∧ ∀ x, ¬ (20 ≤ x ∧ x < 36) → (f_h_ifWritten mh (Int32.ofNat p) (Int32.ofNat h) (Int32.ofNat w)).2 x = mh x := by
  have u0 := isIn_y (M := 40) p hp (by omega) rfl
  have u1 := isIn_y (M := 4) h hh (by omega) rfl
  have u2 := isIn_y (M := 3) w hw (by omega) rfl
  obtain ⟨t1, t2, t3⟩ := try_RS (M := m0 r) hR.1 hp hh hc
  obtain ⟨t4, -, -, -⟩ := t3 w hw
  have htr : ∃ S : gM, f_h_tryWriting mh (Int32.ofNat p) (Int32.ofNat h) = g_mrg [20, 21, 22, 23, 24, 25, 26, 27, 28, 29, 30, 31, 32, 33, 34, 35] S (f_s_writePage (g_sel [20, 21, 22, 23, 24, 25, 26, 27, 28, 29, 30, 31, 32, 33, 34, 35] S) (Int32.ofNat p) (Int32.ofNat h)) ∧ jQ (c + 97) (8 * (c + 97)) (f_s_writePage (g_sel [20, 21, 22, 23, 24, 25, 26, 27, 28, 29, 30, 31, 32, 33, 34, 35] S) (Int32.ofNat p) (Int32.ofNat h)) (vA (wrow h r p 1)) ∧ vA (wrow h r p 1) 1 p ≠ -1 := by
    obtain ⟨a1, a2, a3⟩ := trial_h hR.1
    generalize eS : g_mrg [20, 21, 22, 23, 24, 25, 26, 27, 28, 29, 30, 31, 32, 33, 34, 35, 4, 5, 6, 7, 8, 9, 10, 11, 12, 13, 14, 15, 16, 17, 18, 19] mh (f_s_becomeLike (g_sel [20, 21, 22, 23, 24, 25, 26, 27, 28, 29, 30, 31, 32, 33, 34, 35, 4, 5, 6, 7, 8, 9, 10, 11, 12, 13, 14, 15, 16, 17, 18, 19] mh)) = S at *
    refine ⟨S, by unfold f_h_tryWriting; simp only [g_let_def, eS], ?_⟩
    obtain ⟨k1, k2, x', k3, k4, q1, q2, q3, q4, q5⟩ := writes_RS (mr := m0 r) (aR_m0 r) (selQ20 a2) hp hh (by omega) (by omega)
    refine ⟨?_, by rw [show wrow h r p 1 = wrow h r p (0 + 1) from rfl, vA_wrow]; exact q5⟩
    rw [show 8 * (c + 97) = 8 * c + 776 by omega, show wrow h r p 1 = wrow h r p (0 + 1) from rfl, vA_wrow]
    exact k4
  obtain ⟨S, eF, hq2, hne⟩ := htr
  have hnow : jQ c (8 * c) (g_sel [4, 5, 6, 7, 8, 9, 10, 11, 12, 13, 14, 15, 16, 17, 18, 19] (f_h_tryWriting mh (Int32.ofNat p) (Int32.ofNat h))) (vA r) :=
    selQ (hQ_cell (b := 4) (m := mh) (fun j h1 h2 => t2 _ (by omega)) (congrFun (t2 4 (by omega)) 15) (congrFun (t2 4 (by omega)) 16) (fun _ _ => rfl) hR.1)
  have htr2 : jQ (c + 97) (8 * (c + 97)) (g_sel [20, 21, 22, 23, 24, 25, 26, 27, 28, 29, 30, 31, 32, 33, 34, 35] (f_h_tryWriting mh (Int32.ofNat p) (Int32.ofNat h))) (vA (wrow h r p 1)) := by
    rw [eF]; exact selmrg20 hq2
  have c1 := copies_of hnow
  have c2 := copies_of htr2
  have er1 := erasures_of hnow
  have er2 := erasures_of htr2
  obtain ⟨bo1, bo2⟩ := blockOf_S htr2.1 hp
  rw [vA_13 _ (by omega)] at c1 c2
  rw [vA_13 _ (by omega)] at er1 er2
  unfold o_h_ifWritten f_h_ifWritten
  simp only [g_let_def, if_neg u0, if_neg u1, if_neg u2]
  refine ⟨⟨o_isIn _ _, o_isIn _ _, o_isIn _ _, t1, t4, trivial⟩, ?_, t2⟩
  match w, hw with
  | 0, _ =>
    have e0 : Int32.ofNat 0 = (0 : Int32) := rfl
    unfold f_h_forecast
    simp only [g_let_def, if_pos e0, if_true]
    rw [c1, c2]
  | 1, _ =>
    have e0 : ¬ (Int32.ofNat 1 = (0 : Int32)) := by decide
    have e1 : Int32.ofNat 1 = (1 : Int32) := rfl
    have n0 : ¬ (1 = 0) := by omega
    unfold f_h_forecast
    simp only [g_let_def, if_neg e0, if_pos e1, if_neg n0, if_true]
    rw [bo1, if_neg hne, vA_1 _ hp]
  | 2, _ =>
    have e0 : ¬ (Int32.ofNat 2 = (0 : Int32)) := by decide
    have e1 : ¬ (Int32.ofNat 2 = (1 : Int32)) := by decide
    have n0 : ¬ (2 = 0) := by omega
    have n1 : ¬ (2 = 1) := by omega
    unfold f_h_forecast
    simp only [g_let_def, if_neg e0, if_neg e1, if_neg n0, if_neg n1]
    rw [er1.1, er2.1]
  | n + 3, z => omega
theorem amplQ {c : Nat} {mh : gM} {r : Nat → Int32} {rs : List (Nat → Int32)} (hR : Rq c mh r rs) (hc : c ≤ 116400 * 500) : o_h_amplification mh ∧ f_h_amplification mh = f_r_amplified (m0 r) := by
  obtain ⟨a1, -, a3, -⟩ := ampl_R (M := m0 r) (n := 500) hR.1 hc (by omega)
  exact ⟨a1, a3⟩
