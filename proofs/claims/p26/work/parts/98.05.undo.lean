/-! the latest saved state becomes that of now -/
def und (i : Nat) (m X : gM) : Prop := (∀ j, j < 16 → X (4 + j) = m (36 + 16 * i + j)) ∧ (∀ c, 1 ≤ c → c < 132 → ¬ (4 ≤ c ∧ c < 20) → ¬ (36 + 16 * i ≤ c ∧ c < 52 + 16 * i) → X c = m c) ∧ X 0 = upd (m 0) 3 (m 0 3 - 1)
theorem und_of {i : Nat} {m : gM} {es : List Nat} (h0 : es.getD 0 0 = 0) (h1 : ∀ j, j < 16 → es.getD (4 + j) 0 = 36 + 16 * i + j) (h2 : ∀ c, c < 132 → ¬ (4 ≤ c ∧ c < 20) → ¬ (36 + 16 * i ≤ c ∧ c < 52 + 16 * i) → es.getD c 0 = c) : und i m (g_sel es (g_set m 0 (upd (m 0) 3 (m 0 3 - 1)))) := by
  refine ⟨fun j hj => ?_, fun c c1 c2 c3 c4 => ?_, ?_⟩
  · show g_set m 0 (upd (m 0) 3 (m 0 3 - 1)) (es.getD (4 + j) 0) = _
    rw [h1 j hj, g_set_n (by omega)]
  · show g_set m 0 (upd (m 0) 3 (m 0 3 - 1)) (es.getD c 0) = _
    rw [h2 c c2 c3 c4, g_set_n (by omega)]
  · show g_set m 0 (upd (m 0) 3 (m 0 3 - 1)) (es.getD 0 0) = _
    rw [h0, g_set_s]
theorem undo_0 {m : gM} (h : m 0 3 = Int32.ofNat 1) : (f_h_undo m).1 = Int32.ofNat 0 ∧ und 0 m (f_h_undo m).2 ∧ o_h_undo m := by
  have hp : 0 < m 0 3 := by rw [h]; decide
  have hz : g_set m 0 (upd (m 0) 3 ((m 0 3) - (1 : Int32))) 0 3 = (0 : Int32) := by show upd (m 0) 3 (m 0 3 - 1) 3 = _; rw [upd_at, if_pos rfl, h]; decide
  unfold f_h_undo o_h_undo
  rw [if_pos hp, if_pos hp]
  simp only [g_let_def]
  rw [if_pos hz, if_pos hz]
  exact ⟨hz, und_of (es := [0, 1, 2, 3, 36, 37, 38, 39, 40, 41, 42, 43, 44, 45, 46, 47, 48, 49, 50, 51, 20, 21, 22, 23, 24, 25, 26, 27, 28, 29, 30, 31, 32, 33, 34, 35, 4, 5, 6, 7, 8, 9, 10, 11, 12, 13, 14, 15, 16, 17, 18, 19, 52, 53, 54, 55, 56, 57, 58, 59, 60, 61, 62, 63, 64, 65, 66, 67, 68, 69, 70, 71, 72, 73, 74, 75, 76, 77, 78, 79, 80, 81, 82, 83, 84, 85, 86, 87, 88, 89, 90, 91, 92, 93, 94, 95, 96, 97, 98, 99, 100, 101, 102, 103, 104, 105, 106, 107, 108, 109, 110, 111, 112, 113, 114, 115, 116, 117, 118, 119, 120, 121, 122, 123, 124, 125, 126, 127, 128, 129, 130, 131]) (by decide) (by decide +kernel) (by decide +kernel), trivial⟩
theorem undo_1 {m : gM} (h : m 0 3 = Int32.ofNat 2) : (f_h_undo m).1 = Int32.ofNat 1 ∧ und 1 m (f_h_undo m).2 ∧ o_h_undo m := by
  have hp : 0 < m 0 3 := by rw [h]; decide
  have hz : g_set m 0 (upd (m 0) 3 ((m 0 3) - (1 : Int32))) 0 3 = (1 : Int32) := by show upd (m 0) 3 (m 0 3 - 1) 3 = _; rw [upd_at, if_pos rfl, h]; decide
  have n0 : ¬ (g_set m 0 (upd (m 0) 3 ((m 0 3) - (1 : Int32))) 0 3 = (0 : Int32)) := by rw [hz]; decide
  unfold f_h_undo o_h_undo
  rw [if_pos hp, if_pos hp]
  simp only [g_let_def]
  rw [if_neg n0, if_neg n0, if_pos hz, if_pos hz]
  exact ⟨hz, und_of (es := [0, 1, 2, 3, 52, 53, 54, 55, 56, 57, 58, 59, 60, 61, 62, 63, 64, 65, 66, 67, 20, 21, 22, 23, 24, 25, 26, 27, 28, 29, 30, 31, 32, 33, 34, 35, 36, 37, 38, 39, 40, 41, 42, 43, 44, 45, 46, 47, 48, 49, 50, 51, 4, 5, 6, 7, 8, 9, 10, 11, 12, 13, 14, 15, 16, 17, 18, 19, 68, 69, 70, 71, 72, 73, 74, 75, 76, 77, 78, 79, 80, 81, 82, 83, 84, 85, 86, 87, 88, 89, 90, 91, 92, 93, 94, 95, 96, 97, 98, 99, 100, 101, 102, 103, 104, 105, 106, 107, 108, 109, 110, 111, 112, 113, 114, 115, 116, 117, 118, 119, 120, 121, 122, 123, 124, 125, 126, 127, 128, 129, 130, 131]) (by decide) (by decide +kernel) (by decide +kernel), trivial⟩
theorem undo_2 {m : gM} (h : m 0 3 = Int32.ofNat 3) : (f_h_undo m).1 = Int32.ofNat 2 ∧ und 2 m (f_h_undo m).2 ∧ o_h_undo m := by
  have hp : 0 < m 0 3 := by rw [h]; decide
  have hz : g_set m 0 (upd (m 0) 3 ((m 0 3) - (1 : Int32))) 0 3 = (2 : Int32) := by show upd (m 0) 3 (m 0 3 - 1) 3 = _; rw [upd_at, if_pos rfl, h]; decide
  have n0 : ¬ (g_set m 0 (upd (m 0) 3 ((m 0 3) - (1 : Int32))) 0 3 = (0 : Int32)) := by rw [hz]; decide
  have n1 : ¬ (g_set m 0 (upd (m 0) 3 ((m 0 3) - (1 : Int32))) 0 3 = (1 : Int32)) := by rw [hz]; decide
  unfold f_h_undo o_h_undo
  rw [if_pos hp, if_pos hp]
  simp only [g_let_def]
  rw [if_neg n0, if_neg n0, if_neg n1, if_neg n1, if_pos hz, if_pos hz]
  exact ⟨hz, und_of (es := [0, 1, 2, 3, 68, 69, 70, 71, 72, 73, 74, 75, 76, 77, 78, 79, 80, 81, 82, 83, 20, 21, 22, 23, 24, 25, 26, 27, 28, 29, 30, 31, 32, 33, 34, 35, 36, 37, 38, 39, 40, 41, 42, 43, 44, 45, 46, 47, 48, 49, 50, 51, 52, 53, 54, 55, 56, 57, 58, 59, 60, 61, 62, 63, 64, 65, 66, 67, 4, 5, 6, 7, 8, 9, 10, 11, 12, 13, 14, 15, 16, 17, 18, 19, 84, 85, 86, 87, 88, 89, 90, 91, 92, 93, 94, 95, 96, 97, 98, 99, 100, 101, 102, 103, 104, 105, 106, 107, 108, 109, 110, 111, 112, 113, 114, 115, 116, 117, 118, 119, 120, 121, 122, 123, 124, 125, 126, 127, 128, 129, 130, 131]) (by decide) (by decide +kernel) (by decide +kernel), trivial⟩
theorem undo_3 {m : gM} (h : m 0 3 = Int32.ofNat 4) : (f_h_undo m).1 = Int32.ofNat 3 ∧ und 3 m (f_h_undo m).2 ∧ o_h_undo m := by
  have hp : 0 < m 0 3 := by rw [h]; decide
  have hz : g_set m 0 (upd (m 0) 3 ((m 0 3) - (1 : Int32))) 0 3 = (3 : Int32) := by show upd (m 0) 3 (m 0 3 - 1) 3 = _; rw [upd_at, if_pos rfl, h]; decide
  have n0 : ¬ (g_set m 0 (upd (m 0) 3 ((m 0 3) - (1 : Int32))) 0 3 = (0 : Int32)) := by rw [hz]; decide
  have n1 : ¬ (g_set m 0 (upd (m 0) 3 ((m 0 3) - (1 : Int32))) 0 3 = (1 : Int32)) := by rw [hz]; decide
  have n2 : ¬ (g_set m 0 (upd (m 0) 3 ((m 0 3) - (1 : Int32))) 0 3 = (2 : Int32)) := by rw [hz]; decide
  unfold f_h_undo o_h_undo
  rw [if_pos hp, if_pos hp]
  simp only [g_let_def]
  rw [if_neg n0, if_neg n0, if_neg n1, if_neg n1, if_neg n2, if_neg n2, if_pos hz, if_pos hz]
  exact ⟨hz, und_of (es := [0, 1, 2, 3, 84, 85, 86, 87, 88, 89, 90, 91, 92, 93, 94, 95, 96, 97, 98, 99, 20, 21, 22, 23, 24, 25, 26, 27, 28, 29, 30, 31, 32, 33, 34, 35, 36, 37, 38, 39, 40, 41, 42, 43, 44, 45, 46, 47, 48, 49, 50, 51, 52, 53, 54, 55, 56, 57, 58, 59, 60, 61, 62, 63, 64, 65, 66, 67, 68, 69, 70, 71, 72, 73, 74, 75, 76, 77, 78, 79, 80, 81, 82, 83, 4, 5, 6, 7, 8, 9, 10, 11, 12, 13, 14, 15, 16, 17, 18, 19, 100, 101, 102, 103, 104, 105, 106, 107, 108, 109, 110, 111, 112, 113, 114, 115, 116, 117, 118, 119, 120, 121, 122, 123, 124, 125, 126, 127, 128, 129, 130, 131]) (by decide) (by decide +kernel) (by decide +kernel), trivial⟩
theorem undo_4 {m : gM} (h : m 0 3 = Int32.ofNat 5) : (f_h_undo m).1 = Int32.ofNat 4 ∧ und 4 m (f_h_undo m).2 ∧ o_h_undo m := by
  have hp : 0 < m 0 3 := by rw [h]; decide
  have hz : g_set m 0 (upd (m 0) 3 ((m 0 3) - (1 : Int32))) 0 3 = (4 : Int32) := by show upd (m 0) 3 (m 0 3 - 1) 3 = _; rw [upd_at, if_pos rfl, h]; decide
  have n0 : ¬ (g_set m 0 (upd (m 0) 3 ((m 0 3) - (1 : Int32))) 0 3 = (0 : Int32)) := by rw [hz]; decide
  have n1 : ¬ (g_set m 0 (upd (m 0) 3 ((m 0 3) - (1 : Int32))) 0 3 = (1 : Int32)) := by rw [hz]; decide
  have n2 : ¬ (g_set m 0 (upd (m 0) 3 ((m 0 3) - (1 : Int32))) 0 3 = (2 : Int32)) := by rw [hz]; decide
  have n3 : ¬ (g_set m 0 (upd (m 0) 3 ((m 0 3) - (1 : Int32))) 0 3 = (3 : Int32)) := by rw [hz]; decide
  unfold f_h_undo o_h_undo
  rw [if_pos hp, if_pos hp]
  simp only [g_let_def]
  rw [if_neg n0, if_neg n0, if_neg n1, if_neg n1, if_neg n2, if_neg n2, if_neg n3, if_neg n3, if_pos hz, if_pos hz]
  exact ⟨hz, und_of (es := [0, 1, 2, 3, 100, 101, 102, 103, 104, 105, 106, 107, 108, 109, 110, 111, 112, 113, 114, 115, 20, 21, 22, 23, 24, 25, 26, 27, 28, 29, 30, 31, 32, 33, 34, 35, 36, 37, 38, 39, 40, 41, 42, 43, 44, 45, 46, 47, 48, 49, 50, 51, 52, 53, 54, 55, 56, 57, 58, 59, 60, 61, 62, 63, 64, 65, 66, 67, 68, 69, 70, 71, 72, 73, 74, 75, 76, 77, 78, 79, 80, 81, 82, 83, 84, 85, 86, 87, 88, 89, 90, 91, 92, 93, 94, 95, 96, 97, 98, 99, 4, 5, 6, 7, 8, 9, 10, 11, 12, 13, 14, 15, 16, 17, 18, 19, 116, 117, 118, 119, 120, 121, 122, 123, 124, 125, 126, 127, 128, 129, 130, 131]) (by decide) (by decide +kernel) (by decide +kernel), trivial⟩
theorem undo_5 {m : gM} (h : m 0 3 = Int32.ofNat 6) : (f_h_undo m).1 = Int32.ofNat 5 ∧ und 5 m (f_h_undo m).2 ∧ o_h_undo m := by
  have hp : 0 < m 0 3 := by rw [h]; decide
  have hz : g_set m 0 (upd (m 0) 3 ((m 0 3) - (1 : Int32))) 0 3 = (5 : Int32) := by show upd (m 0) 3 (m 0 3 - 1) 3 = _; rw [upd_at, if_pos rfl, h]; decide
  have n0 : ¬ (g_set m 0 (upd (m 0) 3 ((m 0 3) - (1 : Int32))) 0 3 = (0 : Int32)) := by rw [hz]; decide
  have n1 : ¬ (g_set m 0 (upd (m 0) 3 ((m 0 3) - (1 : Int32))) 0 3 = (1 : Int32)) := by rw [hz]; decide
  have n2 : ¬ (g_set m 0 (upd (m 0) 3 ((m 0 3) - (1 : Int32))) 0 3 = (2 : Int32)) := by rw [hz]; decide
  have n3 : ¬ (g_set m 0 (upd (m 0) 3 ((m 0 3) - (1 : Int32))) 0 3 = (3 : Int32)) := by rw [hz]; decide
  have n4 : ¬ (g_set m 0 (upd (m 0) 3 ((m 0 3) - (1 : Int32))) 0 3 = (4 : Int32)) := by rw [hz]; decide
  unfold f_h_undo o_h_undo
  rw [if_pos hp, if_pos hp]
  simp only [g_let_def]
  rw [if_neg n0, if_neg n0, if_neg n1, if_neg n1, if_neg n2, if_neg n2, if_neg n3, if_neg n3, if_neg n4, if_neg n4, if_pos hz, if_pos hz]
  exact ⟨hz, und_of (es := [0, 1, 2, 3, 116, 117, 118, 119, 120, 121, 122, 123, 124, 125, 126, 127, 128, 129, 130, 131, 20, 21, 22, 23, 24, 25, 26, 27, 28, 29, 30, 31, 32, 33, 34, 35, 36, 37, 38, 39, 40, 41, 42, 43, 44, 45, 46, 47, 48, 49, 50, 51, 52, 53, 54, 55, 56, 57, 58, 59, 60, 61, 62, 63, 64, 65, 66, 67, 68, 69, 70, 71, 72, 73, 74, 75, 76, 77, 78, 79, 80, 81, 82, 83, 84, 85, 86, 87, 88, 89, 90, 91, 92, 93, 94, 95, 96, 97, 98, 99, 100, 101, 102, 103, 104, 105, 106, 107, 108, 109, 110, 111, 112, 113, 114, 115, 4, 5, 6, 7, 8, 9, 10, 11, 12, 13, 14, 15, 16, 17, 18, 19]) (by decide) (by decide +kernel) (by decide +kernel), trivial⟩
theorem undo_h {k : Nat} {m : gM} (hk : k < 6) (h : m 0 3 = Int32.ofNat (k + 1)) : (f_h_undo m).1 = Int32.ofNat k ∧ und k m (f_h_undo m).2 ∧ o_h_undo m := by
  match k, hk, h with
  | 0, _, h => exact undo_0 h
  | 1, _, h => exact undo_1 h
  | 2, _, h => exact undo_2 h
  | 3, _, h => exact undo_3 h
  | 4, _, h => exact undo_4 h
  | 5, _, h => exact undo_5 h
  | n + 6, q, _ => omega
theorem undo_r {k : Nat} {m : gM} (hk : k < 6) (h : m 0 3 = Int32.ofNat (k + 1)) : (f_r_undo m).1 = Int32.ofNat k ∧ f_r_thrown (f_r_undo m).2 = 0 ∧ (f_r_undo m).2 0 3 = Int32.ofNat k ∧ (∀ f, f ≠ 3 → f ≠ 6 → (f_r_undo m).2 0 f = m 0 f) ∧ (∀ c, c ≠ 0 → c ≠ 1 → (f_r_undo m).2 c = m c) ∧ (∀ j, j < 364 → (f_r_undo m).2 1 j = m 3 (364 * k + j)) ∧ o_r_undo m := by
  have hz1 : (g_set m 0 (upd (m 0) 6 (0 : Int32))) 0 3 = Int32.ofNat (k + 1) := h
  have hne : ¬ ((g_set m 0 (upd (m 0) 6 (0 : Int32))) 0 3 = 0) := by
    rw [hz1]; intro w; have := nI_inj (b := 0) (by omega) (by omega) w; omega
  generalize hZ : g_set (g_set m 0 (upd (m 0) 6 (0 : Int32))) 0 (upd ((g_set m 0 (upd (m 0) 6 (0 : Int32))) 0) 3 (((g_set m 0 (upd (m 0) 6 (0 : Int32))) 0 3) - (1 : Int32))) = Z
  have z3 : Z 0 3 = Int32.ofNat k := by
    rw [← hZ]; show m 0 3 - 1 = _
    rw [h]; exact nI_pred k
  have zf : ∀ f, f ≠ 3 → f ≠ 6 → Z 0 f = m 0 f := fun f h3 h6 => by
    rw [← hZ, g_set_s, upd_at, if_neg h3, g_set_s, upd_at, if_neg h6]
  have z6 : Z 0 6 = 0 := by rw [← hZ]; rfl
  have zc : ∀ c, c ≠ 0 → Z c = m c := fun c hc => by rw [← hZ, g_set_n hc, g_set_n hc]
  have e : (364 : Int32) * (Z 0 3) = Int32.ofNat (364 * k) := by rw [z3]; exact nI_times 364 k
  obtain ⟨l1, l2⟩ := lays2_f (m := g_sel [3, 1] Z) (a := 364 * k) (b := 0) (by omega) (by omega)
  have e0 : Int32.ofNat 0 = (0 : Int32) := rfl
  rw [e0] at l1 l2
  obtain ⟨g1, g2, g3⟩ := g_mrg31 Z (f_r_lays2 (g_sel [3, 1] Z) (Int32.ofNat (364 * k)) (0 : Int32))
  have g0 := g1 0 (by decide) (by decide)
  unfold f_r_undo o_r_undo
  simp only [g_let_def]
  rw [if_neg hne, if_neg hne]
  simp only [hZ, e]
  refine ⟨by rw [g0, z3], ?_, by rw [g0, z3], fun f h3 h6 => by rw [g0]; exact zf f h3 h6, fun c h0 h1 => ?_, fun j hj => ?_, l2, trivial⟩
  · show g_mrg [3, 1] Z _ 0 6 = 0
    rw [g0, z6]
  · by_cases h3 : c = 3
    · subst h3; rw [g2, l1]; show Z 3 = m 3; exact zc 3 (by decide)
    · rw [g1 c h1 h3]; exact zc c h0
  · rw [g3, l1, g_set_s]
    show lay (Z 3) (Z 1) (364 * k) 0 364 j = _
    unfold lay
    rw [if_pos (by omega), zc 3 (by decide)]; rfl
theorem undo_R {c k : Nat} {mh mr : gM} (hk : k < 6) (hs : rSv c (k + 1) mh mr) : hQ c 4 (f_h_undo mh).2 ((f_r_undo mr).2 1) ∧ rSv c k (f_h_undo mh).2 (f_r_undo mr).2 := by
  obtain ⟨a1, a2, a3⟩ := hs
  obtain ⟨p1, ⟨p2, p3, p4⟩, p5⟩ := undo_h hk a1
  obtain ⟨q1, q2, q3, q4, q5, q6, q7⟩ := undo_r hk a2
  refine ⟨hQ_cell (b := 36 + 16 * k) (m := mh) (r := fun j => mr 3 (364 * k + j)) (fun j hj1 hj2 => p2 j hj2) ?_ ?_ (fun j hj => q6 j hj) (a3 k (by omega)), ?_, q3, fun i hi => ?_⟩
  · exact congrFun (p2 0 (by omega)) 15
  · exact congrFun (p2 0 (by omega)) 16
  · rw [p4, upd_at, if_pos rfl, a1]; exact nI_pred k
  · refine hQ_cell (b := 36 + 16 * i) (m := mh) (r := fun j => mr 3 (364 * i + j)) (fun j hj1 hj2 => p3 _ (by omega) (by omega) (by omega) (by omega)) ?_ ?_ (fun j hj => ?_) (a3 i (by omega))
    · rw [p3 _ (by omega) (by omega) (by omega) (by omega)]
    · rw [p3 _ (by omega) (by omega) (by omega) (by omega)]
    · rw [q5 3 (by decide) (by decide)]
