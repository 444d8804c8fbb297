/-! what would be: trials -/
theorem selQ20 {c : Nat} {mh : gM} {r : Nat → Int32} (h : hQ c 20 mh r) : jQ c (8 * c) (g_sel [20, 21, 22, 23, 24, 25, 26, 27, 28, 29, 30, 31, 32, 33, 34, 35] mh) (vA r) := by
  refine ⟨jR_cell (m := hS 20 mh) (fun k h1 h2 => ?_) rfl rfl h.1, h.2⟩
  match k, h1, h2 with
  | 1, _, _ => rfl
  | 2, _, _ => rfl
  | 3, _, _ => rfl
  | 4, _, _ => rfl
  | 5, _, _ => rfl
  | 6, _, _ => rfl
  | 7, _, _ => rfl
  | 8, _, _ => rfl
  | 9, _, _ => rfl
  | 10, _, _ => rfl
  | 11, _, _ => rfl
  | 12, _, _ => rfl
  | 13, _, _ => rfl
  | 14, _, _ => rfl
  | 15, _, _ => rfl
  | n + 16, _, z => omega
  | 0, z, _ => omega
theorem selmrg20 {e t : Nat} {z r A : gM} (h : jQ e t r A) : jQ e t (g_sel [20, 21, 22, 23, 24, 25, 26, 27, 28, 29, 30, 31, 32, 33, 34, 35] (g_mrg [20, 21, 22, 23, 24, 25, 26, 27, 28, 29, 30, 31, 32, 33, 34, 35] z r)) A := by
  refine ⟨jR_cell (m := r) (fun k h1 h2 => ?_) rfl rfl h.1, h.2⟩
  match k, h1, h2 with
  | 1, _, _ => rfl
  | 2, _, _ => rfl
  | 3, _, _ => rfl
  | 4, _, _ => rfl
  | 5, _, _ => rfl
  | 6, _, _ => rfl
  | 7, _, _ => rfl
  | 8, _, _ => rfl
  | 9, _, _ => rfl
  | 10, _, _ => rfl
  | 11, _, _ => rfl
  | 12, _, _ => rfl
  | 13, _, _ => rfl
  | 14, _, _ => rfl
  | 15, _, _ => rfl
  | n + 16, _, z => omega
  | 0, z, _ => omega
theorem mrg20_out (z r : gM) : ∀ c, ¬ (20 ≤ c ∧ c < 36) → g_mrg [20, 21, 22, 23, 24, 25, 26, 27, 28, 29, 30, 31, 32, 33, 34, 35] z r c = z c := fun c hc => g_mrg_out (by simp only [List.mem_cons, List.not_mem_nil, or_false]; omega)
/-- the class's trial store becomes like that of now -/
theorem trial_h {c : Nat} {mh : gM} {r : Nat → Int32} (h : hQ c 4 mh r) : o_s_becomeLike (g_sel [20, 21, 22, 23, 24, 25, 26, 27, 28, 29, 30, 31, 32, 33, 34, 35, 4, 5, 6, 7, 8, 9, 10, 11, 12, 13, 14, 15, 16, 17, 18, 19] mh) ∧ hQ c 20 (g_mrg [20, 21, 22, 23, 24, 25, 26, 27, 28, 29, 30, 31, 32, 33, 34, 35, 4, 5, 6, 7, 8, 9, 10, 11, 12, 13, 14, 15, 16, 17, 18, 19] mh (f_s_becomeLike (g_sel [20, 21, 22, 23, 24, 25, 26, 27, 28, 29, 30, 31, 32, 33, 34, 35, 4, 5, 6, 7, 8, 9, 10, 11, 12, 13, 14, 15, 16, 17, 18, 19] mh))) r ∧ (∀ x, ¬ (20 ≤ x ∧ x < 36) → g_mrg [20, 21, 22, 23, 24, 25, 26, 27, 28, 29, 30, 31, 32, 33, 34, 35, 4, 5, 6, 7, 8, 9, 10, 11, 12, 13, 14, 15, 16, 17, 18, 19] mh (f_s_becomeLike (g_sel [20, 21, 22, 23, 24, 25, 26, 27, 28, 29, 30, 31, 32, 33, 34, 35, 4, 5, 6, 7, 8, 9, 10, 11, 12, 13, 14, 15, 16, 17, 18, 19] mh)) x = mh x) := by
  obtain ⟨s1, s2, s3, s4, s5⟩ := save_t mh
  exact ⟨s5, hQ_cell (b := 4) (m := mh) (fun j h1 h2 => s2 j h1 h2) s3 s4 (fun _ _ => rfl) h, s1⟩
/-- the reference's trial row becomes like that of now -/
theorem trial_r (M : gM) : o_r_lays3 (g_sel [1, 2] M) (0 : Int32) (0 : Int32) ∧ vA ((g_mrg [1, 2] M (f_r_lays3 (g_sel [1, 2] M) (0 : Int32) (0 : Int32))) 2) = vA (M 1) ∧ (∀ x, x ≠ 2 → g_mrg [1, 2] M (f_r_lays3 (g_sel [1, 2] M) (0 : Int32) (0 : Int32)) x = M x) := by
  obtain ⟨l1, l2⟩ := lays3_f (m := g_sel [1, 2] M) (a := 0) (b := 0) (by omega) (by omega)
  have e0 : Int32.ofNat 0 = (0 : Int32) := rfl
  rw [e0] at l1 l2
  obtain ⟨g1, g2, g3⟩ := g_mrg12 M (f_r_lays3 (g_sel [1, 2] M) (0 : Int32) (0 : Int32))
  refine ⟨l2, ?_, fun x hx => ?_⟩
  · rw [g3, l1, g_set_s]
    refine vA_c (fun k hk => ?_)
    unfold lay
    rw [if_pos (by omega), show 0 + (k - 0) = k by omega]; rfl
  · by_cases h1 : x = 1
    · subst h1; rw [g2, l1]; rfl
    · exact g1 x h1 hx
theorem wS_step2 {c k x p h : Nat} {A m zm : gM} (hw : wS c k x A m (vA (zm 2))) (hp : p < 40) (hh : h < 4) (hc : c + 97 * (k + 1) < 100000000) :
    o_r_writes (g_sel [2] zm) (Int32.ofNat p) (Int32.ofNat h) ∧ o_s_writePage m (Int32.ofNat p) (Int32.ofNat h) ∧ ∃ x', (f_r_writes (g_sel [2] zm) (Int32.ofNat p) (Int32.ofNat h)).1 = Int32.ofNat x' ∧ wS c (k + 1) (x + x') A (f_s_writePage m (Int32.ofNat p) (Int32.ofNat h)) (vA ((g_mrg [2] zm (f_r_writes (g_sel [2] zm) (Int32.ofNat p) (Int32.ofNat h)).2) 2)) ∧ vA ((g_mrg [2] zm (f_r_writes (g_sel [2] zm) (Int32.ofNat p) (Int32.ofNat h)).2) 2) 1 p ≠ -1 := by
  obtain ⟨h1, h2, h3, h4, h5⟩ := hw
  obtain ⟨k1, k2, x', k3, k4, q1, q2, q3, q4, q5⟩ := writes_RS (mr := g_sel [2] zm) (aR_sel2 zm) h1 hp hh (by omega) (by omega)
  refine ⟨k1, k2, x', k3, ⟨?_, q1.trans h2, q2.trans h3, ?_, ?_⟩, q5⟩
  · have e : c + 97 * (k + 1) = c + 97 * k + 97 := by omega
    rw [e, show 8 * (c + 97 * k + 97) = 8 * (c + 97 * k) + 776 by omega]
    exact k4
  · have q3' : vA ((g_mrg [2] zm (f_r_writes (g_sel [2] zm) (Int32.ofNat p) (Int32.ofNat h)).2) 2) 13 2 = vA (zm 2) 13 2 + 1 := q3
    rw [q3', h4, Int32.add_assoc, e1r]
  · have q4' : vA ((g_mrg [2] zm (f_r_writes (g_sel [2] zm) (Int32.ofNat p) (Int32.ofNat h)).2) 2) 13 3 = vA (zm 2) 13 3 + Int32.ofNat x' := q4
    rw [q4', h5, ← nI_plus2, Int32.add_assoc]
theorem copies_of {e t : Nat} {m A : gM} (h : jQ e t m A) : f_s_copies m = A 13 3 := by rw [h.2.2.1.2.2.1]; exact (h.1.2.2.2.1 4 (by omega)).2
theorem erasures_of {e t : Nat} {m A : gM} (h : jQ e t m A) : f_s_erasures m = A 13 4 ∧ o_s_erasures m := by
  refine ⟨?_, sum12_f.2, trivial⟩
  rw [h.2.2.1.2.2.2.1]
  exact sum12_f.1.trans (sI_c 12 (fun b hb => (h.1.2.2.1 b hb).2.2.2.1))
theorem sub_same (a b : Int32) : a + b - a = b := by rw [Int32.add_comm, Int32.add_sub_cancel]
/-- one page on trial -/
theorem try_RS {c p h : Nat} {mh M : gM} (hq : hQ c 4 mh (M 1)) (hp : p < 40) (hh : h < 4) (hc : c + 97 < 100000000) :
    o_h_tryWriting mh (Int32.ofNat p) (Int32.ofNat h) ∧ (∀ x, ¬ (20 ≤ x ∧ x < 36) → f_h_tryWriting mh (Int32.ofNat p) (Int32.ofNat h) x = mh x) ∧
    ∀ w, w < 3 → o_h_forecast (f_h_tryWriting mh (Int32.ofNat p) (Int32.ofNat h)) (Int32.ofNat p) (Int32.ofNat w) ∧ o_r_written M (Int32.ofNat p) (Int32.ofNat h) (Int32.ofNat w) ∧ f_h_forecast (f_h_tryWriting mh (Int32.ofNat p) (Int32.ofNat h)) (Int32.ofNat p) (Int32.ofNat w) = (f_r_written M (Int32.ofNat p) (Int32.ofNat h) (Int32.ofNat w)).1 ∧ ∀ x, x ≠ 2 → (f_r_written M (Int32.ofNat p) (Int32.ofNat h) (Int32.ofNat w)).2 x = M x := by
  obtain ⟨a1, a2, a3⟩ := trial_h hq
  obtain ⟨b1, b2, b3⟩ := trial_r M
  generalize eS : g_mrg [20, 21, 22, 23, 24, 25, 26, 27, 28, 29, 30, 31, 32, 33, 34, 35, 4, 5, 6, 7, 8, 9, 10, 11, 12, 13, 14, 15, 16, 17, 18, 19] mh (f_s_becomeLike (g_sel [20, 21, 22, 23, 24, 25, 26, 27, 28, 29, 30, 31, 32, 33, 34, 35, 4, 5, 6, 7, 8, 9, 10, 11, 12, 13, 14, 15, 16, 17, 18, 19] mh)) = S at *
  generalize eT : g_mrg [1, 2] M (f_r_lays3 (g_sel [1, 2] M) (0 : Int32) (0 : Int32)) = T at *
  have a4 := selQ20 a2
  rw [← b2] at a4
  obtain ⟨k1, k2, x, k3, k4, k5⟩ := wS_step2 (zm := T) (wS_0 a4) hp hh (by omega)
  have eF : f_h_tryWriting mh (Int32.ofNat p) (Int32.ofNat h) = g_mrg [20, 21, 22, 23, 24, 25, 26, 27, 28, 29, 30, 31, 32, 33, 34, 35] S (f_s_writePage (g_sel [20, 21, 22, 23, 24, 25, 26, 27, 28, 29, 30, 31, 32, 33, 34, 35] S) (Int32.ofNat p) (Int32.ofNat h)) := by
    unfold f_h_tryWriting
    simp only [g_let_def, eS]
  have hout : ∀ x, ¬ (20 ≤ x ∧ x < 36) → f_h_tryWriting mh (Int32.ofNat p) (Int32.ofNat h) x = mh x := fun x hx => by
    rw [eF, mrg20_out _ _ x hx, a3 x hx]
  have hnow : jQ c (8 * c) (g_sel [4, 5, 6, 7, 8, 9, 10, 11, 12, 13, 14, 15, 16, 17, 18, 19] (f_h_tryWriting mh (Int32.ofNat p) (Int32.ofNat h))) (vA (M 1)) := by
    refine selQ (hQ_cell (b := 4) (m := mh) (fun j h1 h2 => hout _ (by omega)) (congrFun (hout 4 (by omega)) 15) (congrFun (hout 4 (by omega)) 16) (fun _ _ => rfl) hq)
  have htr : jQ (c + 97 * (0 + 1)) (8 * (c + 97 * (0 + 1))) (g_sel [20, 21, 22, 23, 24, 25, 26, 27, 28, 29, 30, 31, 32, 33, 34, 35] (f_h_tryWriting mh (Int32.ofNat p) (Int32.ofNat h))) (vA ((g_mrg [2] T (f_r_writes (g_sel [2] T) (Int32.ofNat p) (Int32.ofNat h)).2) 2)) := by
    rw [eF]; exact selmrg20 k4.1
  have c1 := copies_of hnow
  have c2 := copies_of htr
  have er1 := erasures_of hnow
  have er2 := erasures_of htr
  obtain ⟨bo1, bo2⟩ := blockOf_S htr.1 hp
  have hx13 := k4.2.2.2.2
  refine ⟨?_, hout, fun w hw => ?_⟩
  · unfold o_h_tryWriting
    simp only [g_let_def, eS]
    exact ⟨a1, k2, trivial⟩
  · have of1 := of_A (m := g_sel [2] (g_mrg [2] T (f_r_writes (g_sel [2] T) (Int32.ofNat p) (Int32.ofNat h)).2)) hp
    rw [aR_sel2] at of1
    have houtr : ∀ x, x ≠ 2 → g_mrg [2] T (f_r_writes (g_sel [2] T) (Int32.ofNat p) (Int32.ofNat h)).2 x = M x := fun x hx => by
      rw [(g_mrg2 T _).1 x hx, b3 x hx]
    match w, hw with
    | 0, _ =>
      have e0 : Int32.ofNat 0 = (0 : Int32) := rfl
      unfold o_h_forecast o_r_written f_h_forecast f_r_written
      simp only [g_let_def, eT, if_pos e0]
      refine ⟨⟨trivial, trivial, trivial⟩, ⟨b1, k1, trivial⟩, ?_, houtr⟩
      rw [c1, c2, hx13, b2, sub_same, k3, Nat.zero_add]
    | 1, _ =>
      have e0 : ¬ (Int32.ofNat 1 = (0 : Int32)) := by decide
      have e1 : Int32.ofNat 1 = (1 : Int32) := rfl
      unfold o_h_forecast o_r_written f_h_forecast f_r_written
      simp only [g_let_def, eT, if_neg e0, if_pos e1]
      refine ⟨⟨bo2, trivial⟩, ⟨b1, k1, of1.2, trivial⟩, ?_, houtr⟩
      rw [bo1, if_neg k5, of1.1]
    | 2, _ =>
      have e0 : ¬ (Int32.ofNat 2 = (0 : Int32)) := by decide
      have e1 : ¬ (Int32.ofNat 2 = (1 : Int32)) := by decide
      unfold o_h_forecast o_r_written f_h_forecast f_r_written
      simp only [g_let_def, eT, if_neg e0, if_neg e1]
      refine ⟨⟨er2.2, er1.2, trivial⟩, ⟨b1, k1, trivial⟩, ?_, houtr⟩
      rw [er1.1, er2.1]
      have r1 : (g_mrg [2] T (f_r_writes (g_sel [2] T) (Int32.ofNat p) (Int32.ofNat h)).2) 1 = M 1 := houtr 1 (by decide)
      show _ = vA ((g_mrg [2] T (f_r_writes (g_sel [2] T) (Int32.ofNat p) (Int32.ofNat h)).2) 2) 13 4 - ((g_mrg [2] T (f_r_writes (g_sel [2] T) (Int32.ofNat p) (Int32.ofNat h)).2) 1) (362 : Int32).toNatClampNeg
      rw [r1]; rfl
    | n + 3, z => omega
/-! all pages, round by round -/
noncomputable def stS (m : gM) (p : Nat) : gM := if f_s_isWritten (g_sel [20, 21, 22, 23, 24, 25, 26, 27, 28, 29, 30, 31, 32, 33, 34, 35] m) (Int32.ofNat p) = 0 then g_mrg [20, 21, 22, 23, 24, 25, 26, 27, 28, 29, 30, 31, 32, 33, 34, 35] m (f_s_writePage (g_sel [20, 21, 22, 23, 24, 25, 26, 27, 28, 29, 30, 31, 32, 33, 34, 35] m) (Int32.ofNat p) (0 : Int32)) else g_mrg [20, 21, 22, 23, 24, 25, 26, 27, 28, 29, 30, 31, 32, 33, 34, 35] m (f_s_writePage (g_sel [20, 21, 22, 23, 24, 25, 26, 27, 28, 29, 30, 31, 32, 33, 34, 35] m) (Int32.ofNat p) (m 22 p))
noncomputable def sqS (m : gM) : Nat → gM
  | 0 => m
  | j + 1 => stS (sqS m j) (j % 40)
noncomputable def stR (z : Int32 × gM) (p : Nat) : Int32 × gM := if f_r_of (g_sel [2] z.2) (Int32.ofNat p) (1 : Int32) = -1 then (z.1 + (f_r_writes (g_sel [2] z.2) (Int32.ofNat p) (0 : Int32)).1, g_mrg [2] z.2 (f_r_writes (g_sel [2] z.2) (Int32.ofNat p) (0 : Int32)).2) else (z.1 + (f_r_writes (g_sel [2] z.2) (Int32.ofNat p) (f_r_of (g_sel [2] z.2) (Int32.ofNat p) (1 : Int32))).1, g_mrg [2] z.2 (f_r_writes (g_sel [2] z.2) (Int32.ofNat p) (f_r_of (g_sel [2] z.2) (Int32.ofNat p) (1 : Int32))).2)
noncomputable def sqR (z : Int32 × gM) : Nat → Int32 × gM
  | 0 => z
  | j + 1 => stR (sqR z j) (j % 40)
def okS (m : gM) (p : Nat) : Prop := o_s_isWritten (g_sel [20, 21, 22, 23, 24, 25, 26, 27, 28, 29, 30, 31, 32, 33, 34, 35] m) (Int32.ofNat p) ∧ (if f_s_isWritten (g_sel [20, 21, 22, 23, 24, 25, 26, 27, 28, 29, 30, 31, 32, 33, 34, 35] m) (Int32.ofNat p) = 0 then o_s_writePage (g_sel [20, 21, 22, 23, 24, 25, 26, 27, 28, 29, 30, 31, 32, 33, 34, 35] m) (Int32.ofNat p) (0 : Int32) else o_s_writePage (g_sel [20, 21, 22, 23, 24, 25, 26, 27, 28, 29, 30, 31, 32, 33, 34, 35] m) (Int32.ofNat p) (m 22 p))
def okR (z : gM) (p : Nat) : Prop := o_r_of (g_sel [2] z) (Int32.ofNat p) (1 : Int32) ∧ (if f_r_of (g_sel [2] z) (Int32.ofNat p) (1 : Int32) = -1 then o_r_writes (g_sel [2] z) (Int32.ofNat p) (0 : Int32) else o_r_writes (g_sel [2] z) (Int32.ofNat p) (f_r_of (g_sel [2] z) (Int32.ofNat p) (1 : Int32)))
def tJ (c : Nat) (A : gM) (m : gM) (z : gM) (j : Nat) (mj : gM) (zj : Int32 × gM) : Prop := ∃ x, zj.1 = Int32.ofNat x ∧ wS c j x A (g_sel [20, 21, 22, 23, 24, 25, 26, 27, 28, 29, 30, 31, 32, 33, 34, 35] mj) (vA (zj.2 2)) ∧ (∀ y, ¬ (20 ≤ y ∧ y < 36) → mj y = m y) ∧ ∀ y, y ≠ 2 → zj.2 y = z y
theorem tJ_step {c j p : Nat} {A m z mj : gM} {zj : Int32 × gM} (h : tJ c A m z j mj zj) (hp : p < 40) (hc : c + 97 * (j + 1) < 100000000) : tJ c A m z (j + 1) (stS mj p) (stR zj p) ∧ okS mj p ∧ okR zj.2 p := by
  obtain ⟨x, h1, h2, h3, h4⟩ := h
  have hR := h2.1.1
  have hV := h2.1.2.1
  obtain ⟨w1, w2⟩ := isWritten_S hR hp
  have o2 := of_A2 (m := g_sel [2] zj.2) hp
  rw [aR_sel2] at o2
  have ih := (hV.2.2.1 p hp)
  have n10 : ¬ ((1 : Int32) = 0) := by decide
  by_cases q : vA (zj.2 2) 1 p = -1
  · have q2 := ih.2 (by omega) q
    obtain ⟨k1, k2, x', k3, k4, -⟩ := wS_step2 (h := 0) h2 hp (by omega) hc
    have w3 : f_s_isWritten (g_sel [20, 21, 22, 23, 24, 25, 26, 27, 28, 29, 30, 31, 32, 33, 34, 35] mj) (Int32.ofNat p) = 0 := by rw [w1, if_pos q]
    have o3 : f_r_of (g_sel [2] zj.2) (Int32.ofNat p) (1 : Int32) = -1 := by rw [o2.1, q2]
    unfold stS stR okS okR
    simp only [if_pos w3, if_pos o3]
    refine ⟨⟨x + x', ?_, ⟨selmrg20 k4.1, k4.2⟩, fun y hy => ?_, fun y hy => ?_⟩, ⟨w2, k2⟩, o2.2, k1⟩
    · show zj.1 + (f_r_writes (g_sel [2] zj.2) (Int32.ofNat p) (Int32.ofNat 0)).1 = _
      rw [h1, k3, nI_plus2]
    · rw [mrg20_out _ _ y hy, h3 y hy]
    · exact ((g_mrg2 zj.2 _).1 y hy).trans (h4 y hy)
  · obtain ⟨h, hh, q2⟩ := ih.1 q
    obtain ⟨k1, k2, x', k3, k4, -⟩ := wS_step2 (h := h) h2 hp hh hc
    have w3 : ¬ (f_s_isWritten (g_sel [20, 21, 22, 23, 24, 25, 26, 27, 28, 29, 30, 31, 32, 33, 34, 35] mj) (Int32.ofNat p) = 0) := by rw [w1, if_neg q]; exact n10
    have o3 : f_r_of (g_sel [2] zj.2) (Int32.ofNat p) (1 : Int32) = Int32.ofNat h := by rw [o2.1, q2]
    have o4 : ¬ (f_r_of (g_sel [2] zj.2) (Int32.ofNat p) (1 : Int32) = -1) := by rw [o3]; exact nI_ne1 (by omega)
    have m22 : mj 22 p = Int32.ofNat h := by rw [← q2]; exact (hR.1 p hp).2.1 (by rw [q2]; exact nI_ne1 (by omega))
    unfold stS stR okS okR
    simp only [if_neg w3, if_neg o4]
    rw [o3, m22]
    refine ⟨⟨x + x', ?_, ⟨selmrg20 k4.1, k4.2⟩, fun y hy => ?_, fun y hy => ?_⟩, ⟨w2, k2⟩, o2.2, k1⟩
    · show zj.1 + (f_r_writes (g_sel [2] zj.2) (Int32.ofNat p) (Int32.ofNat h)).1 = _
      rw [h1, k3, nI_plus2]
    · rw [mrg20_out _ _ y hy, h3 y hy]
    · exact ((g_mrg2 zj.2 _).1 y hy).trans (h4 y hy)
theorem tJ_all {c : Nat} {A m : gM} {z : Int32 × gM} (h : tJ c A m z.2 0 m z) (hc : c + 97 * 361 < 100000000) : ∀ j, j ≤ 360 → tJ c A m z.2 j (sqS m j) (sqR z j) := by
  intro j
  induction j with
  | zero => intro _; exact h
  | succ j ih => intro hj; exact (tJ_step (ih (by omega)) (show j % 40 < 40 by omega) (by omega)).1
