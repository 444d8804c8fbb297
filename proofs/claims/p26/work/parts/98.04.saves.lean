/-! rows are laid, in the reference -/
def lay (f g : Nat → Int32) (a b n : Nat) : Nat → Int32 := fun j => if b ≤ j ∧ j < b + n then f (a + (j - b)) else g j
theorem lay_0 (f g : Nat → Int32) (a b : Nat) : lay f g a b 0 = g := by funext j; unfold lay; rw [if_neg (by omega)]
theorem lay_s (f g : Nat → Int32) (a b n : Nat) : upd (lay f g a b n) (b + n) (f (a + n)) = lay f g a b (n + 1) := by
  funext j; rw [upd_at]; unfold lay
  by_cases h : j = b + n
  · rw [if_pos h, if_pos (by omega), h, show b + n - b = n by omega]
  · rw [if_neg h]
    by_cases h2 : b ≤ j ∧ j < b + n
    · rw [if_pos h2, if_pos (by omega)]
    · rw [if_neg h2, if_neg (by omega)]
theorem lays1_f {m : gM} {a b : Nat} (ha : a + 364 ≤ 364) (hb : b + 364 ≤ 2184) : f_r_lays1 m (Int32.ofNat a) (Int32.ofNat b) = g_set m 1 (lay (m 0) (m 1) a b 364) ∧ o_r_lays1 m (Int32.ofNat a) (Int32.ofNat b) := by
  have hL := run_count (f := L_r_lays1_3 (Int32.ofNat a) (Int32.ofNat b)) (K := K_r_lays1_3 (Int32.ofNat a) (Int32.ofNat b)) (N := 364) (fuel := 400) (z := ((0 : Int32), m)) (fun n (z : Int32 × gM) => z = (Int32.ofNat n, g_set m 1 (lay (m 0) (m 1) a b n))) (fun (z : Int32 × gM) => z.2 = g_set m 1 (lay (m 0) (m 1) a b 364)) (by decide) (by rw [lay_0, g_set_same]; rfl) (fun n z hn hz => ?_) (fun z hz => ?_)
  · unfold f_r_lays1 o_r_lays1
    simp only [g_let_def]
    exact ⟨hL.2, hL.1, trivial⟩
  · subst hz
    have hlt : ¬ ((364 : Int32) ≤ Int32.ofNat n) := by intro h; have := (leI (a := 364) (by omega) (by omega)).mp h; omega
    have h0 : ∀ f, g_set m 1 f 0 = m 0 := fun f => rfl
    unfold L_r_lays1_3 K_r_lays1_3
    simp only [g_let_def, if_neg hlt, nI_plus2, nI_ix (show a + n < 2147483648 by omega), nI_ix (show b + n < 2147483648 by omega), g_set_s, h0, g_set_twice, lay_s, e1r]
    exact ⟨⟨vp_in_nI (by omega) (by omega), vp_in_nI (by omega) (by omega), trivial⟩, trivial, trivial⟩
  · subst hz
    have hle : (364 : Int32) ≤ Int32.ofNat 364 := by decide
    unfold L_r_lays1_3 K_r_lays1_3
    simp only [if_pos hle]
    exact ⟨trivial, trivial, trivial⟩
theorem lays2_f {m : gM} {a b : Nat} (ha : a + 364 ≤ 2184) (hb : b + 364 ≤ 364) : f_r_lays2 m (Int32.ofNat a) (Int32.ofNat b) = g_set m 1 (lay (m 0) (m 1) a b 364) ∧ o_r_lays2 m (Int32.ofNat a) (Int32.ofNat b) := by
  have hL := run_count (f := L_r_lays2_3 (Int32.ofNat a) (Int32.ofNat b)) (K := K_r_lays2_3 (Int32.ofNat a) (Int32.ofNat b)) (N := 364) (fuel := 400) (z := ((0 : Int32), m)) (fun n (z : Int32 × gM) => z = (Int32.ofNat n, g_set m 1 (lay (m 0) (m 1) a b n))) (fun (z : Int32 × gM) => z.2 = g_set m 1 (lay (m 0) (m 1) a b 364)) (by decide) (by rw [lay_0, g_set_same]; rfl) (fun n z hn hz => ?_) (fun z hz => ?_)
  · unfold f_r_lays2 o_r_lays2
    simp only [g_let_def]
    exact ⟨hL.2, hL.1, trivial⟩
  · subst hz
    have hlt : ¬ ((364 : Int32) ≤ Int32.ofNat n) := by intro h; have := (leI (a := 364) (by omega) (by omega)).mp h; omega
    have h0 : ∀ f, g_set m 1 f 0 = m 0 := fun f => rfl
    unfold L_r_lays2_3 K_r_lays2_3
    simp only [g_let_def, if_neg hlt, nI_plus2, nI_ix (show a + n < 2147483648 by omega), nI_ix (show b + n < 2147483648 by omega), g_set_s, h0, g_set_twice, lay_s, e1r]
    exact ⟨⟨vp_in_nI (by omega) (by omega), vp_in_nI (by omega) (by omega), trivial⟩, trivial, trivial⟩
  · subst hz
    have hle : (364 : Int32) ≤ Int32.ofNat 364 := by decide
    unfold L_r_lays2_3 K_r_lays2_3
    simp only [if_pos hle]
    exact ⟨trivial, trivial, trivial⟩
theorem lays3_f {m : gM} {a b : Nat} (ha : a + 364 ≤ 364) (hb : b + 364 ≤ 364) : f_r_lays3 m (Int32.ofNat a) (Int32.ofNat b) = g_set m 1 (lay (m 0) (m 1) a b 364) ∧ o_r_lays3 m (Int32.ofNat a) (Int32.ofNat b) := by
  have hL := run_count (f := L_r_lays3_3 (Int32.ofNat a) (Int32.ofNat b)) (K := K_r_lays3_3 (Int32.ofNat a) (Int32.ofNat b)) (N := 364) (fuel := 400) (z := ((0 : Int32), m)) (fun n (z : Int32 × gM) => z = (Int32.ofNat n, g_set m 1 (lay (m 0) (m 1) a b n))) (fun (z : Int32 × gM) => z.2 = g_set m 1 (lay (m 0) (m 1) a b 364)) (by decide) (by rw [lay_0, g_set_same]; rfl) (fun n z hn hz => ?_) (fun z hz => ?_)
  · unfold f_r_lays3 o_r_lays3
    simp only [g_let_def]
    exact ⟨hL.2, hL.1, trivial⟩
  · subst hz
    have hlt : ¬ ((364 : Int32) ≤ Int32.ofNat n) := by intro h; have := (leI (a := 364) (by omega) (by omega)).mp h; omega
    have h0 : ∀ f, g_set m 1 f 0 = m 0 := fun f => rfl
    unfold L_r_lays3_3 K_r_lays3_3
    simp only [g_let_def, if_neg hlt, nI_plus2, nI_ix (show a + n < 2147483648 by omega), nI_ix (show b + n < 2147483648 by omega), g_set_s, h0, g_set_twice, lay_s, e1r]
    exact ⟨⟨vp_in_nI (by omega) (by omega), vp_in_nI (by omega) (by omega), trivial⟩, trivial, trivial⟩
  · subst hz
    have hle : (364 : Int32) ≤ Int32.ofNat 364 := by decide
    unfold L_r_lays3_3 K_r_lays3_3
    simp only [if_pos hle]
    exact ⟨trivial, trivial, trivial⟩
theorem shift_f {m : gM} : rOk (L_r_saves_11) (K_r_saves_11) 2000 ((0 : Int32), m) ∧ (run (L_r_saves_11) 2000 ((0 : Int32), m)).2 = g_set m 3 (fun j => if j < 1820 then m 3 (j + 364) else m 3 j) := by
  have hz0 : (fun j => if j < 0 then m 3 (j + 364) else m 3 j) = m 3 := by funext j; rw [if_neg (by omega)]
  refine run_count (N := 1820) (fuel := 2000) (fun n (z : Int32 × gM) => z = (Int32.ofNat n, g_set m 3 (fun j => if j < n then m 3 (j + 364) else m 3 j))) (fun (z : Int32 × gM) => z.2 = g_set m 3 (fun j => if j < 1820 then m 3 (j + 364) else m 3 j)) (by decide) (by rw [hz0, g_set_same]; rfl) (fun n z hn hz => ?_) (fun z hz => ?_)
  · subst hz
    have hlt : ¬ ((1820 : Int32) ≤ Int32.ofNat n) := by intro h; have := (leI (a := 1820) (by omega) (by omega)).mp h; omega
    have e364 : Int32.ofNat n + (364 : Int32) = Int32.ofNat (n + 364) := nI_plus2 n 364
    unfold L_r_saves_11 K_r_saves_11
    simp only [g_let_def, if_neg hlt, e364, nI_ix (show n < 2147483648 by omega), nI_ix (show n + 364 < 2147483648 by omega), g_set_s, g_set_twice, e1r]
    refine ⟨⟨vp_in_nI (by omega) (by omega), vp_in_nI (by omega) (by omega), trivial⟩, trivial, ?_⟩
    have : upd (fun j => if j < n then m 3 (j + 364) else m 3 j) n (if n + 364 < n then m 3 (n + 364 + 364) else m 3 (n + 364)) = (fun j => if j < n + 1 then m 3 (j + 364) else m 3 j) := by
      funext j
      rw [upd_at, if_neg (show ¬ (n + 364 < n) by omega)]
      by_cases h : j = n
      · rw [if_pos h, if_pos (by omega), h]
      · rw [if_neg h]
        by_cases h2 : j < n
        · rw [if_pos h2, if_pos (by omega)]
        · rw [if_neg h2, if_neg (by omega)]
    rw [this]
  · subst hz
    have hle : (1820 : Int32) ≤ Int32.ofNat 1820 := by decide
    unfold L_r_saves_11 K_r_saves_11
    simp only [if_pos hle]
    exact ⟨trivial, trivial, trivial⟩
/-- what the reference's saving lays -/
def svr (k : Nat) (m m' : gM) : Prop := (∀ c, c ≠ 0 → c ≠ 3 → m' c = m c) ∧ m' 3 = lay (m 1) (m 3) 0 (364 * k) 364 ∧ m' 0 = upd (m 0) 3 (m 0 3 + 1)
theorem g_mrg13 (z r : gM) : (∀ c, c ≠ 1 → c ≠ 3 → g_mrg [1, 3] z r c = z c) ∧ g_mrg [1, 3] z r 1 = r 0 ∧ g_mrg [1, 3] z r 3 = r 1 :=
  ⟨fun c h1 h3 => g_mrg_out (by simp; omega), rfl, rfl⟩
theorem g_mrg31 (z r : gM) : (∀ c, c ≠ 1 → c ≠ 3 → g_mrg [3, 1] z r c = z c) ∧ g_mrg [3, 1] z r 3 = r 0 ∧ g_mrg [3, 1] z r 1 = r 1 :=
  ⟨fun c h1 h3 => g_mrg_out (by simp; omega), rfl, rfl⟩
theorem g_mrg12 (z r : gM) : (∀ c, c ≠ 1 → c ≠ 2 → g_mrg [1, 2] z r c = z c) ∧ g_mrg [1, 2] z r 1 = r 0 ∧ g_mrg [1, 2] z r 2 = r 1 :=
  ⟨fun c h1 h3 => g_mrg_out (by simp; omega), rfl, rfl⟩
theorem g_mrg1 (z r : gM) : (∀ c, c ≠ 1 → g_mrg [1] z r c = z c) ∧ g_mrg [1] z r 1 = r 0 :=
  ⟨fun c h1 => g_mrg_out (by simp; omega), rfl⟩
theorem g_mrg2 (z r : gM) : (∀ c, c ≠ 2 → g_mrg [2] z r c = z c) ∧ g_mrg [2] z r 2 = r 0 :=
  ⟨fun c h1 => g_mrg_out (by simp; omega), rfl⟩
theorem saves_tail {m : gM} {k : Nat} (hk : k < 6) (h : m 0 3 = Int32.ofNat k) : svr k m (g_set (g_mrg [1, 3] m (f_r_lays1 (g_sel [1, 3] m) (0 : Int32) ((364 : Int32) * (m 0 3)))) 0 (upd ((g_mrg [1, 3] m (f_r_lays1 (g_sel [1, 3] m) (0 : Int32) ((364 : Int32) * (m 0 3)))) 0) 3 (((g_mrg [1, 3] m (f_r_lays1 (g_sel [1, 3] m) (0 : Int32) ((364 : Int32) * (m 0 3)))) 0 3) + (1 : Int32)))) ∧ o_r_lays1 (g_sel [1, 3] m) (0 : Int32) ((364 : Int32) * (m 0 3)) := by
  have e : (364 : Int32) * (m 0 3) = Int32.ofNat (364 * k) := by rw [h]; exact nI_times 364 k
  obtain ⟨l1, l2⟩ := lays1_f (m := g_sel [1, 3] m) (a := 0) (b := 364 * k) (by omega) (by omega)
  have e0 : Int32.ofNat 0 = (0 : Int32) := rfl
  rw [e0] at l1 l2
  rw [e]
  obtain ⟨g1, g2, g3⟩ := g_mrg13 m (f_r_lays1 (g_sel [1, 3] m) (0 : Int32) (Int32.ofNat (364 * k)))
  have h0 := g1 0 (by decide) (by decide)
  refine ⟨⟨fun c hc0 hc3 => ?_, ?_, ?_⟩, l2⟩
  · rw [g_set_n hc0]
    by_cases hc1 : c = 1
    · subst hc1; rw [g2, l1]; rfl
    · exact g1 c hc1 hc3
  · rw [g_set_n (by decide), g3, l1]; rfl
  · rw [g_set_s, h0]
theorem saves_1 {m : gM} {k : Nat} (hk : k < 6) (h : m 0 3 = Int32.ofNat k) : svr k m (f_r_saves m) ∧ o_r_saves m := by
  have h6 : ¬ (m 0 3 = (6 : Int32)) := by
    rw [h]; intro w; have := nI_inj (b := 6) (by omega) (by omega) w; omega
  obtain ⟨s1, s2⟩ := saves_tail hk h
  unfold f_r_saves o_r_saves
  rw [if_neg h6, if_neg h6]
  simp only [g_let_def]
  exact ⟨s1, s2, trivial⟩
def shf (m : gM) : gM := g_set (g_set m 3 (fun j => if j < 1820 then m 3 (j + 364) else m 3 j)) 0 (upd (m 0) 3 (m 0 3 - 1))
theorem saves_6 {m : gM} (h : m 0 3 = Int32.ofNat 6) : svr 5 (shf m) (f_r_saves m) ∧ o_r_saves m := by
  have h6 : m 0 3 = (6 : Int32) := h
  obtain ⟨k1, k2⟩ := shift_f (m := m)
  have hz : shf m 0 3 = Int32.ofNat 5 := by
    show upd (m 0) 3 (m 0 3 - 1) 3 = _; rw [upd_at, if_pos rfl, h]; decide
  obtain ⟨s1, s2⟩ := saves_tail (m := shf m) (k := 5) (by decide) hz
  have e : g_set (run (L_r_saves_11) 2000 ((0 : Int32), m)).2 0 (upd ((run (L_r_saves_11) 2000 ((0 : Int32), m)).2 0) 3 (((run (L_r_saves_11) 2000 ((0 : Int32), m)).2 0 3) - (1 : Int32))) = shf m := by
    rw [k2]; rfl
  unfold f_r_saves o_r_saves
  rw [if_pos h6, if_pos h6]
  simp only [g_let_def, e]
  exact ⟨s1, k1, s2, trivial⟩
/-! the saved states side by side -/
def rSv (c k : Nat) (mh mr : gM) : Prop := mh 0 3 = Int32.ofNat k ∧ mr 0 3 = Int32.ofNat k ∧ ∀ i, i < k → hQ c (36 + 16 * i) mh (fun j => mr 3 (364 * i + j))
/-- besides the states: what saving leaves -/
def sKp (mh mh' mr mr' : gM) : Prop := (∀ c, 1 ≤ c → c < 36 → mh' c = mh c) ∧ (∀ f, f ≠ 3 → mh' 0 f = mh 0 f) ∧ (∀ c, c ≠ 0 → c ≠ 3 → mr' c = mr c) ∧ (∀ f, f ≠ 3 → mr' 0 f = mr 0 f)
theorem rSv_step {c k : Nat} {mh mh' mr mr' : gM} (hk : k < 6) (hs : rSv c k mh mr) (hn : hQ c 4 mh (mr 1)) (h1 : svd k mh mh') (h2 : svr k mr mr') : rSv c (k + 1) mh' mr' := by
  obtain ⟨a1, a2, a3⟩ := hs
  obtain ⟨b1, b2, b3, b4, b5⟩ := h1
  obtain ⟨c1, c2, c3⟩ := h2
  refine ⟨by rw [b5, upd_at, if_pos rfl, a1, e1r], by rw [c3, upd_at, if_pos rfl, a2, e1r], fun i hi => ?_⟩
  by_cases h : i = k
  · subst h
    refine hQ_cell (b := 4) (m := mh) (r := mr 1) (fun j hj1 hj2 => b2 j hj1 hj2) b3 b4 (fun j hj => ?_) hn
    rw [c2]; unfold lay
    rw [if_pos (by omega), show 0 + (364 * i + j - 364 * i) = j by omega]
  · refine hQ_cell (b := 36 + 16 * i) (m := mh) (r := fun j => mr 3 (364 * i + j)) (fun j hj1 hj2 => b1 _ (by omega) (by omega)) ?_ ?_ (fun j hj => ?_) (a3 i (by omega))
    · rw [b1 _ (by omega) (by omega)]
    · rw [b1 _ (by omega) (by omega)]
    · rw [c2]; unfold lay
      rw [if_neg (by omega)]
theorem save_R {c k : Nat} {mh mr : gM} (hn : hQ c 4 mh (mr 1)) (hk : k ≤ 6) (hs : rSv c k mh mr) : o_h_saveState mh ∧ o_r_saves mr ∧ (∃ k', 1 ≤ k' ∧ k' ≤ 6 ∧ rSv c k' (f_h_saveState mh) (f_r_saves mr)) ∧ sKp mh (f_h_saveState mh) mr (f_r_saves mr) := by
  have key : ∀ {k : Nat} {m r m' r' : gM}, k < 6 → svd k m m' → svr k r r' → sKp m m' r r' := by
    intro k m r m' r' hk h1 h2
    obtain ⟨b1, b2, b3, b4, b5⟩ := h1
    obtain ⟨c1, c2, c3⟩ := h2
    exact ⟨fun c h1 h2 => b1 c (by omega) (by omega), fun f hf => by rw [b5, upd_at, if_neg hf], c1, fun f hf => by rw [c3, upd_at, if_neg hf]⟩
  by_cases h6 : k = 6
  · subst h6
    obtain ⟨a1, a2, a3⟩ := hs
    obtain ⟨p1, p2⟩ := saveState_6 a1
    obtain ⟨q1, q2⟩ := saves_6 a2
    obtain ⟨d1, d2, d3, d4⟩ := drop_f (m := mh)
    have hs5 : rSv c 5 (f_h_dropOldest mh) (shf mr) := by
      refine ⟨by rw [d3, upd_at, if_pos rfl, a1]; decide, by show upd (mr 0) 3 (mr 0 3 - 1) 3 = _; rw [upd_at, if_pos rfl, a2]; decide, fun i hi => ?_⟩
      refine hQ_cell (b := 36 + 16 * (i + 1)) (m := mh) (r := fun j => mr 3 (364 * (i + 1) + j)) (fun j hj1 hj2 => ?_) ?_ ?_ (fun j hj => ?_) (a3 (i + 1) (by omega))
      · rw [d2 _ (by omega) (by omega)]; congr 1; omega
      · rw [d2 _ (by omega) (by omega), show 36 + 16 * i + 16 = 36 + 16 * (i + 1) by omega]
      · rw [d2 _ (by omega) (by omega), show 36 + 16 * i + 16 = 36 + 16 * (i + 1) by omega]
      · show (if 364 * i + j < 1820 then mr 3 (364 * i + j + 364) else mr 3 (364 * i + j)) = mr 3 (364 * (i + 1) + j)
        rw [if_pos (by omega)]; congr 1; omega
    have hn5 : hQ c 4 (f_h_dropOldest mh) ((shf mr) 1) := by
      refine hQ_cell (b := 4) (m := mh) (r := mr 1) (fun j hj1 hj2 => d1 _ (by omega) (by omega)) ?_ ?_ (fun j hj => rfl) hn
      · rw [d1 4 (by omega) (by omega)]
      · rw [d1 4 (by omega) (by omega)]
    have hkp := key (k := 5) (by decide) p1 q1
    refine ⟨p2, q2, ⟨6, by omega, by omega, rSv_step (k := 5) (by decide) hs5 hn5 p1 q1⟩, fun x h1 h2 => ?_, fun f hf => ?_, fun x h1 h2 => ?_, fun f hf => ?_⟩
    · rw [hkp.1 x h1 h2]; exact d1 x (by omega) h2
    · rw [hkp.2.1 f hf, d3, upd_at, if_neg hf]
    · rw [hkp.2.2.1 x h1 h2]
      show g_set (g_set mr 3 _) 0 _ x = mr x
      rw [g_set_n h1, g_set_n h2]
    · rw [hkp.2.2.2 f hf]
      show upd (mr 0) 3 (mr 0 3 - 1) f = _
      rw [upd_at, if_neg hf]
  · have hk6 : k < 6 := by omega
    have p : svd k mh (f_h_saveState mh) ∧ o_h_saveState mh := by
      have a1 := hs.1
      match k, hk6, a1 with
      | 0, _, a => exact saveState_0 a
      | 1, _, a => exact saveState_1 a
      | 2, _, a => exact saveState_2 a
      | 3, _, a => exact saveState_3 a
      | 4, _, a => exact saveState_4 a
      | 5, _, a => exact saveState_5 a
      | n + 6, h, _ => omega
    obtain ⟨q1, q2⟩ := saves_1 hk6 hs.2.1
    exact ⟨p.2, q2, ⟨k + 1, by omega, by omega, rSv_step hk6 hs hn p.1 q1⟩, key hk6 p.1 q1⟩
