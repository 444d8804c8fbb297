/-! stores within an object's picture; saved states -/
theorem jR_cell {m m' A : gM} (h : ∀ k, 1 ≤ k → k < 16 → m' k = m k) (h1 : m' 0 15 = m 0 15) (h2 : m' 0 16 = m 0 16) (hR : jR m A) : jR m' A := by
  unfold jR at hR ⊢
  rw [h1, h2, h 1 (by omega) (by omega), h 2 (by omega) (by omega), h 3 (by omega) (by omega), h 4 (by omega) (by omega), h 5 (by omega) (by omega), h 6 (by omega) (by omega), h 7 (by omega) (by omega), h 8 (by omega) (by omega), h 9 (by omega) (by omega), h 10 (by omega) (by omega), h 11 (by omega) (by omega), h 12 (by omega) (by omega), h 13 (by omega) (by omega), h 14 (by omega) (by omega), h 15 (by omega) (by omega)]
  exact hR
def hS (b : Nat) (mh : gM) : gM := fun k => mh (b + k)
/-- the store at the cell b of the picture mh is that of the row r -/
def hQ (c b : Nat) (mh : gM) (r : Nat → Int32) : Prop := jQ c (8 * c) (hS b mh) (vA r)
theorem hQ_cell {c b b' : Nat} {m m' : gM} {r r' : Nat → Int32} (h : ∀ k, 1 ≤ k → k < 16 → m' (b' + k) = m (b + k)) (h1 : m' b' 15 = m b 15) (h2 : m' b' 16 = m b 16) (hr : ∀ k, k < 364 → r' k = r k) (hQ0 : hQ c b m r) : hQ c b' m' r' := by
  unfold hQ at hQ0 ⊢
  rw [vA_c hr]
  exact ⟨jR_cell (m := hS b m) (fun k h3 h4 => h k h3 h4) h1 h2 hQ0.1, hQ0.2⟩
theorem hQ_up {c c' b : Nat} {m : gM} {r : Nat → Int32} (h : hQ c b m r) (hc : c ≤ c') : hQ c' b m r := jQ_up h hc (by omega)
theorem crow {a b : Nat} (hab : a ≠ b) (m : gM) : g_mrg [a, b] m (g_set (g_sel [a, b] m) 1 (g_sel [a, b] m 0)) = g_set m b (m a) := by
  funext k
  rw [g_set_at]
  unfold g_mrg
  by_cases h : k = a
  · subst h
    simp only [g_ix, if_true, if_neg hab]
    rfl
  · by_cases h2 : k = b
    · subst h2
      simp only [g_ix, if_true, if_neg h]
      rfl
    · simp only [g_ix, if_neg h, if_neg h2]
theorem becomeLike_f (m : gM) : (∀ k, 1 ≤ k → k < 16 → f_s_becomeLike m k = m (16 + k)) ∧ f_s_becomeLike m 0 15 = m 16 15 ∧ f_s_becomeLike m 0 16 = m 16 16 ∧ (∀ k, 16 ≤ k → f_s_becomeLike m k = m k) ∧ o_s_becomeLike m := by
  unfold f_s_becomeLike o_s_becomeLike f_s_copyRow40 f_s_copyRow96 f_s_copyRow12 f_s_copyRow5 f_s_copyRow2 o_s_copyRow40 o_s_copyRow96 o_s_copyRow12 o_s_copyRow5 o_s_copyRow2
  simp only [g_let_def, crow (show 17 ≠ 1 by decide), crow (show 18 ≠ 2 by decide), crow (show 19 ≠ 3 by decide), crow (show 20 ≠ 4 by decide), crow (show 21 ≠ 5 by decide), crow (show 22 ≠ 6 by decide), crow (show 23 ≠ 7 by decide), crow (show 24 ≠ 8 by decide), crow (show 25 ≠ 9 by decide), crow (show 26 ≠ 10 by decide), crow (show 27 ≠ 11 by decide), crow (show 28 ≠ 12 by decide), crow (show 29 ≠ 13 by decide), crow (show 30 ≠ 14 by decide), crow (show 31 ≠ 15 by decide)]
  refine ⟨fun k h1 h2 => ?_, rfl, rfl, fun k hk => ?_, ?_⟩
  · match k, h1, h2 with
    | 1, _, _ => rfl
    | 2, _, _ => rfl
    | 3, _, _ => rfl
    | 4, _, _ => rfl
    | 5, _, _ => rfl
    | 6, _, _ => rfl
    | 7, _, _ => rfl
    | 8, _, _ => rfl
    | 9, _, _ => rfl
    | 10, _, _ => rfl
    | 11, _, _ => rfl
    | 12, _, _ => rfl
    | 13, _, _ => rfl
    | 14, _, _ => rfl
    | 15, _, _ => rfl
    | n + 16, _, h => omega
  · simp only [g_set_at, if_neg (show ¬ k = 0 by omega), if_neg (show ¬ k = 1 by omega), if_neg (show ¬ k = 2 by omega), if_neg (show ¬ k = 3 by omega), if_neg (show ¬ k = 4 by omega), if_neg (show ¬ k = 5 by omega), if_neg (show ¬ k = 6 by omega), if_neg (show ¬ k = 7 by omega), if_neg (show ¬ k = 8 by omega), if_neg (show ¬ k = 9 by omega), if_neg (show ¬ k = 10 by omega), if_neg (show ¬ k = 11 by omega), if_neg (show ¬ k = 12 by omega), if_neg (show ¬ k = 13 by omega), if_neg (show ¬ k = 14 by omega), if_neg (show ¬ k = 15 by omega)]
  · simp only [and_self]
theorem save_es {es : List Nat} {b : Nat} (z : gM) (hb : 20 ≤ b) (hn : es.Nodup) (hg : ∀ j, j < 16 → es[j]? = some (b + j)) (hg2 : ∀ j, j < 16 → es[16 + j]? = some (4 + j)) (hout : ∀ c, ¬ (b ≤ c ∧ c < b + 16) → ¬ (4 ≤ c ∧ c < 20) → c ∉ es) :
    (∀ c, ¬ (b ≤ c ∧ c < b + 16) → g_mrg es z (f_s_becomeLike (g_sel es z)) c = z c) ∧ (∀ j, 1 ≤ j → j < 16 → g_mrg es z (f_s_becomeLike (g_sel es z)) (b + j) = z (4 + j)) ∧ g_mrg es z (f_s_becomeLike (g_sel es z)) b 15 = z 4 15 ∧ g_mrg es z (f_s_becomeLike (g_sel es z)) b 16 = z 4 16 ∧ o_s_becomeLike (g_sel es z) := by
  obtain ⟨f1, f2, f3, f4, f5⟩ := becomeLike_f (g_sel es z)
  have hs : ∀ j, j < 16 → g_sel es z (16 + j) = z (4 + j) := fun j hj => by
    unfold g_sel; rw [List.getD_eq_getElem?_getD, hg2 j hj]; rfl
  have hb0 : g_mrg es z (f_s_becomeLike (g_sel es z)) b = f_s_becomeLike (g_sel es z) 0 := g_mrg_in hn (hg 0 (by omega))
  refine ⟨fun c hc => ?_, fun j h1 h2 => ?_, ?_, ?_, f5⟩
  · by_cases h : 4 ≤ c ∧ c < 20
    · have h9 : es[16 + (c - 4)]? = some c := by rw [hg2 (c - 4) (by omega), show 4 + (c - 4) = c by omega]
      rw [g_mrg_in hn h9, f4 _ (by omega), hs (c - 4) (by omega), show 4 + (c - 4) = c by omega]
    · rw [g_mrg_out (hout c hc h)]
  · rw [g_mrg_in hn (hg j h2), f1 j h1 h2, hs j h2]
  · rw [hb0, f2, ← hs 0 (by omega)]
  · rw [hb0, f3, ← hs 0 (by omega)]
theorem save_0 (z : gM) : (∀ c, ¬ (36 ≤ c ∧ c < 52) → g_mrg [36, 37, 38, 39, 40, 41, 42, 43, 44, 45, 46, 47, 48, 49, 50, 51, 4, 5, 6, 7, 8, 9, 10, 11, 12, 13, 14, 15, 16, 17, 18, 19] z (f_s_becomeLike (g_sel [36, 37, 38, 39, 40, 41, 42, 43, 44, 45, 46, 47, 48, 49, 50, 51, 4, 5, 6, 7, 8, 9, 10, 11, 12, 13, 14, 15, 16, 17, 18, 19] z)) c = z c) ∧ (∀ j, 1 ≤ j → j < 16 → g_mrg [36, 37, 38, 39, 40, 41, 42, 43, 44, 45, 46, 47, 48, 49, 50, 51, 4, 5, 6, 7, 8, 9, 10, 11, 12, 13, 14, 15, 16, 17, 18, 19] z (f_s_becomeLike (g_sel [36, 37, 38, 39, 40, 41, 42, 43, 44, 45, 46, 47, 48, 49, 50, 51, 4, 5, 6, 7, 8, 9, 10, 11, 12, 13, 14, 15, 16, 17, 18, 19] z)) (36 + j) = z (4 + j)) ∧ g_mrg [36, 37, 38, 39, 40, 41, 42, 43, 44, 45, 46, 47, 48, 49, 50, 51, 4, 5, 6, 7, 8, 9, 10, 11, 12, 13, 14, 15, 16, 17, 18, 19] z (f_s_becomeLike (g_sel [36, 37, 38, 39, 40, 41, 42, 43, 44, 45, 46, 47, 48, 49, 50, 51, 4, 5, 6, 7, 8, 9, 10, 11, 12, 13, 14, 15, 16, 17, 18, 19] z)) 36 15 = z 4 15 ∧ g_mrg [36, 37, 38, 39, 40, 41, 42, 43, 44, 45, 46, 47, 48, 49, 50, 51, 4, 5, 6, 7, 8, 9, 10, 11, 12, 13, 14, 15, 16, 17, 18, 19] z (f_s_becomeLike (g_sel [36, 37, 38, 39, 40, 41, 42, 43, 44, 45, 46, 47, 48, 49, 50, 51, 4, 5, 6, 7, 8, 9, 10, 11, 12, 13, 14, 15, 16, 17, 18, 19] z)) 36 16 = z 4 16 ∧ o_s_becomeLike (g_sel [36, 37, 38, 39, 40, 41, 42, 43, 44, 45, 46, 47, 48, 49, 50, 51, 4, 5, 6, 7, 8, 9, 10, 11, 12, 13, 14, 15, 16, 17, 18, 19] z) := by
  refine save_es (b := 36) z (by omega) (by decide) (fun j hj => ?_) (fun j hj => ?_) (fun c h1 h2 => ?_)
  · revert j; decide
  · revert j; decide
  · simp only [List.mem_cons, List.not_mem_nil, or_false]; omega
theorem save_1 (z : gM) : (∀ c, ¬ (52 ≤ c ∧ c < 68) → g_mrg [52, 53, 54, 55, 56, 57, 58, 59, 60, 61, 62, 63, 64, 65, 66, 67, 4, 5, 6, 7, 8, 9, 10, 11, 12, 13, 14, 15, 16, 17, 18, 19] z (f_s_becomeLike (g_sel [52, 53, 54, 55, 56, 57, 58, 59, 60, 61, 62, 63, 64, 65, 66, 67, 4, 5, 6, 7, 8, 9, 10, 11, 12, 13, 14, 15, 16, 17, 18, 19] z)) c = z c) ∧ (∀ j, 1 ≤ j → j < 16 → g_mrg [52, 53, 54, 55, 56, 57, 58, 59, 60, 61, 62, 63, 64, 65, 66, 67, 4, 5, 6, 7, 8, 9, 10, 11, 12, 13, 14, 15, 16, 17, 18, 19] z (f_s_becomeLike (g_sel [52, 53, 54, 55, 56, 57, 58, 59, 60, 61, 62, 63, 64, 65, 66, 67, 4, 5, 6, 7, 8, 9, 10, 11, 12, 13, 14, 15, 16, 17, 18, 19] z)) (52 + j) = z (4 + j)) ∧ g_mrg [52, 53, 54, 55, 56, 57, 58, 59, 60, 61, 62, 63, 64, 65, 66, 67, 4, 5, 6, 7, 8, 9, 10, 11, 12, 13, 14, 15, 16, 17, 18, 19] z (f_s_becomeLike (g_sel [52, 53, 54, 55, 56, 57, 58, 59, 60, 61, 62, 63, 64, 65, 66, 67, 4, 5, 6, 7, 8, 9, 10, 11, 12, 13, 14, 15, 16, 17, 18, 19] z)) 52 15 = z 4 15 ∧ g_mrg [52, 53, 54, 55, 56, 57, 58, 59, 60, 61, 62, 63, 64, 65, 66, 67, 4, 5, 6, 7, 8, 9, 10, 11, 12, 13, 14, 15, 16, 17, 18, 19] z (f_s_becomeLike (g_sel [52, 53, 54, 55, 56, 57, 58, 59, 60, 61, 62, 63, 64, 65, 66, 67, 4, 5, 6, 7, 8, 9, 10, 11, 12, 13, 14, 15, 16, 17, 18, 19] z)) 52 16 = z 4 16 ∧ o_s_becomeLike (g_sel [52, 53, 54, 55, 56, 57, 58, 59, 60, 61, 62, 63, 64, 65, 66, 67, 4, 5, 6, 7, 8, 9, 10, 11, 12, 13, 14, 15, 16, 17, 18, 19] z) := by
  refine save_es (b := 52) z (by omega) (by decide) (fun j hj => ?_) (fun j hj => ?_) (fun c h1 h2 => ?_)
  · revert j; decide
  · revert j; decide
  · simp only [List.mem_cons, List.not_mem_nil, or_false]; omega
theorem save_2 (z : gM) : (∀ c, ¬ (68 ≤ c ∧ c < 84) → g_mrg [68, 69, 70, 71, 72, 73, 74, 75, 76, 77, 78, 79, 80, 81, 82, 83, 4, 5, 6, 7, 8, 9, 10, 11, 12, 13, 14, 15, 16, 17, 18, 19] z (f_s_becomeLike (g_sel [68, 69, 70, 71, 72, 73, 74, 75, 76, 77, 78, 79, 80, 81, 82, 83, 4, 5, 6, 7, 8, 9, 10, 11, 12, 13, 14, 15, 16, 17, 18, 19] z)) c = z c) ∧ (∀ j, 1 ≤ j → j < 16 → g_mrg [68, 69, 70, 71, 72, 73, 74, 75, 76, 77, 78, 79, 80, 81, 82, 83, 4, 5, 6, 7, 8, 9, 10, 11, 12, 13, 14, 15, 16, 17, 18, 19] z (f_s_becomeLike (g_sel [68, 69, 70, 71, 72, 73, 74, 75, 76, 77, 78, 79, 80, 81, 82, 83, 4, 5, 6, 7, 8, 9, 10, 11, 12, 13, 14, 15, 16, 17, 18, 19] z)) (68 + j) = z (4 + j)) ∧ g_mrg [68, 69, 70, 71, 72, 73, 74, 75, 76, 77, 78, 79, 80, 81, 82, 83, 4, 5, 6, 7, 8, 9, 10, 11, 12, 13, 14, 15, 16, 17, 18, 19] z (f_s_becomeLike (g_sel [68, 69, 70, 71, 72, 73, 74, 75, 76, 77, 78, 79, 80, 81, 82, 83, 4, 5, 6, 7, 8, 9, 10, 11, 12, 13, 14, 15, 16, 17, 18, 19] z)) 68 15 = z 4 15 ∧ g_mrg [68, 69, 70, 71, 72, 73, 74, 75, 76, 77, 78, 79, 80, 81, 82, 83, 4, 5, 6, 7, 8, 9, 10, 11, 12, 13, 14, 15, 16, 17, 18, 19] z (f_s_becomeLike (g_sel [68, 69, 70, 71, 72, 73, 74, 75, 76, 77, 78, 79, 80, 81, 82, 83, 4, 5, 6, 7, 8, 9, 10, 11, 12, 13, 14, 15, 16, 17, 18, 19] z)) 68 16 = z 4 16 ∧ o_s_becomeLike (g_sel [68, 69, 70, 71, 72, 73, 74, 75, 76, 77, 78, 79, 80, 81, 82, 83, 4, 5, 6, 7, 8, 9, 10, 11, 12, 13, 14, 15, 16, 17, 18, 19] z) := by
  refine save_es (b := 68) z (by omega) (by decide) (fun j hj => ?_) (fun j hj => ?_) (fun c h1 h2 => ?_)
  · revert j; decide
  · revert j; decide
  · simp only [List.mem_cons, List.not_mem_nil, or_false]; omega
theorem save_3 (z : gM) : (∀ c, ¬ (84 ≤ c ∧ c < 100) → g_mrg [84, 85, 86, 87, 88, 89, 90, 91, 92, 93, 94, 95, 96, 97, 98, 99, 4, 5, 6, 7, 8, 9, 10, 11, 12, 13, 14, 15, 16, 17, 18, 19] z (f_s_becomeLike (g_sel [84, 85, 86, 87, 88, 89, 90, 91, 92, 93, 94, 95, 96, 97, 98, 99, 4, 5, 6, 7, 8, 9, 10, 11, 12, 13, 14, 15, 16, 17, 18, 19] z)) c = z c) ∧ (∀ j, 1 ≤ j → j < 16 → g_mrg [84, 85, 86, 87, 88, 89, 90, 91, 92, 93, 94, 95, 96, 97, 98, 99, 4, 5, 6, 7, 8, 9, 10, 11, 12, 13, 14, 15, 16, 17, 18, 19] z (f_s_becomeLike (g_sel [84, 85, 86, 87, 88, 89, 90, 91, 92, 93, 94, 95, 96, 97, 98, 99, 4, 5, 6, 7, 8, 9, 10, 11, 12, 13, 14, 15, 16, 17, 18, 19] z)) (84 + j) = z (4 + j)) ∧ g_mrg [84, 85, 86, 87, 88, 89, 90, 91, 92, 93, 94, 95, 96, 97, 98, 99, 4, 5, 6, 7, 8, 9, 10, 11, 12, 13, 14, 15, 16, 17, 18, 19] z (f_s_becomeLike (g_sel [84, 85, 86, 87, 88, 89, 90, 91, 92, 93, 94, 95, 96, 97, 98, 99, 4, 5, 6, 7, 8, 9, 10, 11, 12, 13, 14, 15, 16, 17, 18, 19] z)) 84 15 = z 4 15 ∧ g_mrg [84, 85, 86, 87, 88, 89, 90, 91, 92, 93, 94, 95, 96, 97, 98, 99, 4, 5, 6, 7, 8, 9, 10, 11, 12, 13, 14, 15, 16, 17, 18, 19] z (f_s_becomeLike (g_sel [84, 85, 86, 87, 88, 89, 90, 91, 92, 93, 94, 95, 96, 97, 98, 99, 4, 5, 6, 7, 8, 9, 10, 11, 12, 13, 14, 15, 16, 17, 18, 19] z)) 84 16 = z 4 16 ∧ o_s_becomeLike (g_sel [84, 85, 86, 87, 88, 89, 90, 91, 92, 93, 94, 95, 96, 97, 98, 99, 4, 5, 6, 7, 8, 9, 10, 11, 12, 13, 14, 15, 16, 17, 18, 19] z) := by
  refine save_es (b := 84) z (by omega) (by decide) (fun j hj => ?_) (fun j hj => ?_) (fun c h1 h2 => ?_)
  · revert j; decide
  · revert j; decide
  · simp only [List.mem_cons, List.not_mem_nil, or_false]; omega
theorem save_4 (z : gM) : (∀ c, ¬ (100 ≤ c ∧ c < 116) → g_mrg [100, 101, 102, 103, 104, 105, 106, 107, 108, 109, 110, 111, 112, 113, 114, 115, 4, 5, 6, 7, 8, 9, 10, 11, 12, 13, 14, 15, 16, 17, 18, 19] z (f_s_becomeLike (g_sel [100, 101, 102, 103, 104, 105, 106, 107, 108, 109, 110, 111, 112, 113, 114, 115, 4, 5, 6, 7, 8, 9, 10, 11, 12, 13, 14, 15, 16, 17, 18, 19] z)) c = z c) ∧ (∀ j, 1 ≤ j → j < 16 → g_mrg [100, 101, 102, 103, 104, 105, 106, 107, 108, 109, 110, 111, 112, 113, 114, 115, 4, 5, 6, 7, 8, 9, 10, 11, 12, 13, 14, 15, 16, 17, 18, 19] z (f_s_becomeLike (g_sel [100, 101, 102, 103, 104, 105, 106, 107, 108, 109, 110, 111, 112, 113, 114, 115, 4, 5, 6, 7, 8, 9, 10, 11, 12, 13, 14, 15, 16, 17, 18, 19] z)) (100 + j) = z (4 + j)) ∧ g_mrg [100, 101, 102, 103, 104, 105, 106, 107, 108, 109, 110, 111, 112, 113, 114, 115, 4, 5, 6, 7, 8, 9, 10, 11, 12, 13, 14, 15, 16, 17, 18, 19] z (f_s_becomeLike (g_sel [100, 101, 102, 103, 104, 105, 106, 107, 108, 109, 110, 111, 112, 113, 114, 115, 4, 5, 6, 7, 8, 9, 10, 11, 12, 13, 14, 15, 16, 17, 18, 19] z)) 100 15 = z 4 15 ∧ g_mrg [100, 101, 102, 103, 104, 105, 106, 107, 108, 109, 110, 111, 112, 113, 114, 115, 4, 5, 6, 7, 8, 9, 10, 11, 12, 13, 14, 15, 16, 17, 18, 19] z (f_s_becomeLike (g_sel [100, 101, 102, 103, 104, 105, 106, 107, 108, 109, 110, 111, 112, 113, 114, 115, 4, 5, 6, 7, 8, 9, 10, 11, 12, 13, 14, 15, 16, 17, 18, 19] z)) 100 16 = z 4 16 ∧ o_s_becomeLike (g_sel [100, 101, 102, 103, 104, 105, 106, 107, 108, 109, 110, 111, 112, 113, 114, 115, 4, 5, 6, 7, 8, 9, 10, 11, 12, 13, 14, 15, 16, 17, 18, 19] z) := by
  refine save_es (b := 100) z (by omega) (by decide) (fun j hj => ?_) (fun j hj => ?_) (fun c h1 h2 => ?_)
  · revert j; decide
  · revert j; decide
  · simp only [List.mem_cons, List.not_mem_nil, or_false]; omega
theorem save_5 (z : gM) : (∀ c, ¬ (116 ≤ c ∧ c < 132) → g_mrg [116, 117, 118, 119, 120, 121, 122, 123, 124, 125, 126, 127, 128, 129, 130, 131, 4, 5, 6, 7, 8, 9, 10, 11, 12, 13, 14, 15, 16, 17, 18, 19] z (f_s_becomeLike (g_sel [116, 117, 118, 119, 120, 121, 122, 123, 124, 125, 126, 127, 128, 129, 130, 131, 4, 5, 6, 7, 8, 9, 10, 11, 12, 13, 14, 15, 16, 17, 18, 19] z)) c = z c) ∧ (∀ j, 1 ≤ j → j < 16 → g_mrg [116, 117, 118, 119, 120, 121, 122, 123, 124, 125, 126, 127, 128, 129, 130, 131, 4, 5, 6, 7, 8, 9, 10, 11, 12, 13, 14, 15, 16, 17, 18, 19] z (f_s_becomeLike (g_sel [116, 117, 118, 119, 120, 121, 122, 123, 124, 125, 126, 127, 128, 129, 130, 131, 4, 5, 6, 7, 8, 9, 10, 11, 12, 13, 14, 15, 16, 17, 18, 19] z)) (116 + j) = z (4 + j)) ∧ g_mrg [116, 117, 118, 119, 120, 121, 122, 123, 124, 125, 126, 127, 128, 129, 130, 131, 4, 5, 6, 7, 8, 9, 10, 11, 12, 13, 14, 15, 16, 17, 18, 19] z (f_s_becomeLike (g_sel [116, 117, 118, 119, 120, 121, 122, 123, 124, 125, 126, 127, 128, 129, 130, 131, 4, 5, 6, 7, 8, 9, 10, 11, 12, 13, 14, 15, 16, 17, 18, 19] z)) 116 15 = z 4 15 ∧ g_mrg [116, 117, 118, 119, 120, 121, 122, 123, 124, 125, 126, 127, 128, 129, 130, 131, 4, 5, 6, 7, 8, 9, 10, 11, 12, 13, 14, 15, 16, 17, 18, 19] z (f_s_becomeLike (g_sel [116, 117, 118, 119, 120, 121, 122, 123, 124, 125, 126, 127, 128, 129, 130, 131, 4, 5, 6, 7, 8, 9, 10, 11, 12, 13, 14, 15, 16, 17, 18, 19] z)) 116 16 = z 4 16 ∧ o_s_becomeLike (g_sel [116, 117, 118, 119, 120, 121, 122, 123, 124, 125, 126, 127, 128, 129, 130, 131, 4, 5, 6, 7, 8, 9, 10, 11, 12, 13, 14, 15, 16, 17, 18, 19] z) := by
  refine save_es (b := 116) z (by omega) (by decide) (fun j hj => ?_) (fun j hj => ?_) (fun c h1 h2 => ?_)
  · revert j; decide
  · revert j; decide
  · simp only [List.mem_cons, List.not_mem_nil, or_false]; omega
theorem save_t (z : gM) : (∀ c, ¬ (20 ≤ c ∧ c < 36) → g_mrg [20, 21, 22, 23, 24, 25, 26, 27, 28, 29, 30, 31, 32, 33, 34, 35, 4, 5, 6, 7, 8, 9, 10, 11, 12, 13, 14, 15, 16, 17, 18, 19] z (f_s_becomeLike (g_sel [20, 21, 22, 23, 24, 25, 26, 27, 28, 29, 30, 31, 32, 33, 34, 35, 4, 5, 6, 7, 8, 9, 10, 11, 12, 13, 14, 15, 16, 17, 18, 19] z)) c = z c) ∧ (∀ j, 1 ≤ j → j < 16 → g_mrg [20, 21, 22, 23, 24, 25, 26, 27, 28, 29, 30, 31, 32, 33, 34, 35, 4, 5, 6, 7, 8, 9, 10, 11, 12, 13, 14, 15, 16, 17, 18, 19] z (f_s_becomeLike (g_sel [20, 21, 22, 23, 24, 25, 26, 27, 28, 29, 30, 31, 32, 33, 34, 35, 4, 5, 6, 7, 8, 9, 10, 11, 12, 13, 14, 15, 16, 17, 18, 19] z)) (20 + j) = z (4 + j)) ∧ g_mrg [20, 21, 22, 23, 24, 25, 26, 27, 28, 29, 30, 31, 32, 33, 34, 35, 4, 5, 6, 7, 8, 9, 10, 11, 12, 13, 14, 15, 16, 17, 18, 19] z (f_s_becomeLike (g_sel [20, 21, 22, 23, 24, 25, 26, 27, 28, 29, 30, 31, 32, 33, 34, 35, 4, 5, 6, 7, 8, 9, 10, 11, 12, 13, 14, 15, 16, 17, 18, 19] z)) 20 15 = z 4 15 ∧ g_mrg [20, 21, 22, 23, 24, 25, 26, 27, 28, 29, 30, 31, 32, 33, 34, 35, 4, 5, 6, 7, 8, 9, 10, 11, 12, 13, 14, 15, 16, 17, 18, 19] z (f_s_becomeLike (g_sel [20, 21, 22, 23, 24, 25, 26, 27, 28, 29, 30, 31, 32, 33, 34, 35, 4, 5, 6, 7, 8, 9, 10, 11, 12, 13, 14, 15, 16, 17, 18, 19] z)) 20 16 = z 4 16 ∧ o_s_becomeLike (g_sel [20, 21, 22, 23, 24, 25, 26, 27, 28, 29, 30, 31, 32, 33, 34, 35, 4, 5, 6, 7, 8, 9, 10, 11, 12, 13, 14, 15, 16, 17, 18, 19] z) := by
  refine save_es (b := 20) z (by omega) (by decide) (fun j hj => ?_) (fun j hj => ?_) (fun c h1 h2 => ?_)
  · revert j; decide
  · revert j; decide
  · simp only [List.mem_cons, List.not_mem_nil, or_false]; omega
/-- what saving lays: the state k is that of now -/
def svd (k : Nat) (m m' : gM) : Prop := (∀ c, c ≠ 0 → ¬ (36 + 16 * k ≤ c ∧ c < 52 + 16 * k) → m' c = m c) ∧ (∀ j, 1 ≤ j → j < 16 → m' (36 + 16 * k + j) = m (4 + j)) ∧ m' (36 + 16 * k) 15 = m 4 15 ∧ m' (36 + 16 * k) 16 = m 4 16 ∧ m' 0 = upd (m 0) 3 (m 0 3 + 1)
theorem svd_of {k : Nat} {m X : gM} (hk : k < 6) (h : (∀ c, ¬ (36 + 16 * k ≤ c ∧ c < 36 + 16 * k + 16) → X c = m c) ∧ (∀ j, 1 ≤ j → j < 16 → X (36 + 16 * k + j) = m (4 + j)) ∧ X (36 + 16 * k) 15 = m 4 15 ∧ X (36 + 16 * k) 16 = m 4 16) : svd k m (g_set X 0 (upd (X 0) 3 (X 0 3 + 1))) := by
  obtain ⟨h1, h2, h3, h4⟩ := h
  have h0 : X 0 = m 0 := h1 0 (by omega)
  refine ⟨fun c hc hn => ?_, fun j hj1 hj2 => ?_, ?_, ?_, ?_⟩
  · rw [g_set_n hc]; exact h1 c (by omega)
  · rw [g_set_n (by omega)]; exact h2 j hj1 hj2
  · rw [g_set_n (by omega)]; exact h3
  · rw [g_set_n (by omega)]; exact h4
  · rw [g_set_s, h0]
theorem saveState_0 {m : gM} (h : m 0 3 = Int32.ofNat 0) : svd 0 m (f_h_saveState m) ∧ o_h_saveState m := by
  obtain ⟨s1, s2, s3, s4, s5⟩ := save_0 m
  have h6 : ¬ (m 0 3 = (6 : Int32)) := by rw [h]; decide
  have e : m 0 3 = (0 : Int32) := h
  unfold f_h_saveState o_h_saveState
  rw [if_neg h6, if_neg h6, if_pos e, if_pos e]
  simp only [g_let_def]
  exact ⟨svd_of (by decide) ⟨s1, s2, s3, s4⟩, s5, trivial⟩
theorem saveState_1 {m : gM} (h : m 0 3 = Int32.ofNat 1) : svd 1 m (f_h_saveState m) ∧ o_h_saveState m := by
  obtain ⟨s1, s2, s3, s4, s5⟩ := save_1 m
  have h6 : ¬ (m 0 3 = (6 : Int32)) := by rw [h]; decide
  have n0 : ¬ (m 0 3 = (0 : Int32)) := by rw [h]; decide
  have e : m 0 3 = (1 : Int32) := h
  unfold f_h_saveState o_h_saveState
  rw [if_neg h6, if_neg h6, if_neg n0, if_neg n0, if_pos e, if_pos e]
  simp only [g_let_def]
  exact ⟨svd_of (by decide) ⟨s1, s2, s3, s4⟩, s5, trivial⟩
theorem saveState_2 {m : gM} (h : m 0 3 = Int32.ofNat 2) : svd 2 m (f_h_saveState m) ∧ o_h_saveState m := by
  obtain ⟨s1, s2, s3, s4, s5⟩ := save_2 m
  have h6 : ¬ (m 0 3 = (6 : Int32)) := by rw [h]; decide
  have n0 : ¬ (m 0 3 = (0 : Int32)) := by rw [h]; decide
  have n1 : ¬ (m 0 3 = (1 : Int32)) := by rw [h]; decide
  have e : m 0 3 = (2 : Int32) := h
  unfold f_h_saveState o_h_saveState
  rw [if_neg h6, if_neg h6, if_neg n0, if_neg n0, if_neg n1, if_neg n1, if_pos e, if_pos e]
  simp only [g_let_def]
  exact ⟨svd_of (by decide) ⟨s1, s2, s3, s4⟩, s5, trivial⟩
theorem saveState_3 {m : gM} (h : m 0 3 = Int32.ofNat 3) : svd 3 m (f_h_saveState m) ∧ o_h_saveState m := by
  obtain ⟨s1, s2, s3, s4, s5⟩ := save_3 m
  have h6 : ¬ (m 0 3 = (6 : Int32)) := by rw [h]; decide
  have n0 : ¬ (m 0 3 = (0 : Int32)) := by rw [h]; decide
  have n1 : ¬ (m 0 3 = (1 : Int32)) := by rw [h]; decide
  have n2 : ¬ (m 0 3 = (2 : Int32)) := by rw [h]; decide
  have e : m 0 3 = (3 : Int32) := h
  unfold f_h_saveState o_h_saveState
  rw [if_neg h6, if_neg h6, if_neg n0, if_neg n0, if_neg n1, if_neg n1, if_neg n2, if_neg n2, if_pos e, if_pos e]
  simp only [g_let_def]
  exact ⟨svd_of (by decide) ⟨s1, s2, s3, s4⟩, s5, trivial⟩
theorem saveState_4 {m : gM} (h : m 0 3 = Int32.ofNat 4) : svd 4 m (f_h_saveState m) ∧ o_h_saveState m := by
  obtain ⟨s1, s2, s3, s4, s5⟩ := save_4 m
  have h6 : ¬ (m 0 3 = (6 : Int32)) := by rw [h]; decide
  have n0 : ¬ (m 0 3 = (0 : Int32)) := by rw [h]; decide
  have n1 : ¬ (m 0 3 = (1 : Int32)) := by rw [h]; decide
  have n2 : ¬ (m 0 3 = (2 : Int32)) := by rw [h]; decide
  have n3 : ¬ (m 0 3 = (3 : Int32)) := by rw [h]; decide
  have e : m 0 3 = (4 : Int32) := h
  unfold f_h_saveState o_h_saveState
  rw [if_neg h6, if_neg h6, if_neg n0, if_neg n0, if_neg n1, if_neg n1, if_neg n2, if_neg n2, if_neg n3, if_neg n3, if_pos e, if_pos e]
  simp only [g_let_def]
  exact ⟨svd_of (by decide) ⟨s1, s2, s3, s4⟩, s5, trivial⟩
theorem saveState_5 {m : gM} (h : m 0 3 = Int32.ofNat 5) : svd 5 m (f_h_saveState m) ∧ o_h_saveState m := by
  obtain ⟨s1, s2, s3, s4, s5⟩ := save_5 m
  have h6 : ¬ (m 0 3 = (6 : Int32)) := by rw [h]; decide
  have n0 : ¬ (m 0 3 = (0 : Int32)) := by rw [h]; decide
  have n1 : ¬ (m 0 3 = (1 : Int32)) := by rw [h]; decide
  have n2 : ¬ (m 0 3 = (2 : Int32)) := by rw [h]; decide
  have n3 : ¬ (m 0 3 = (3 : Int32)) := by rw [h]; decide
  have n4 : ¬ (m 0 3 = (4 : Int32)) := by rw [h]; decide
  have e : m 0 3 = (5 : Int32) := h
  unfold f_h_saveState o_h_saveState
  rw [if_neg h6, if_neg h6, if_neg n0, if_neg n0, if_neg n1, if_neg n1, if_neg n2, if_neg n2, if_neg n3, if_neg n3, if_neg n4, if_neg n4, if_pos e, if_pos e]
  simp only [g_let_def]
  exact ⟨svd_of (by decide) ⟨s1, s2, s3, s4⟩, s5, trivial⟩
theorem drop_f {m : gM} : (∀ c, c ≠ 0 → c < 36 → f_h_dropOldest m c = m c) ∧ (∀ c, 36 ≤ c → c < 116 → f_h_dropOldest m c = m (c + 16)) ∧ f_h_dropOldest m 0 = upd (m 0) 3 (m 0 3 - 1) ∧ o_h_dropOldest m := by
  unfold f_h_dropOldest o_h_dropOldest
  simp only [g_let_def]
  refine ⟨fun c h0 h1 => ?_, fun c h1 h2 => ?_, rfl, trivial⟩
  · match c, h0, h1 with
    | 1, _, _ => rfl
    | 2, _, _ => rfl
    | 3, _, _ => rfl
    | 4, _, _ => rfl
    | 5, _, _ => rfl
    | 6, _, _ => rfl
    | 7, _, _ => rfl
    | 8, _, _ => rfl
    | 9, _, _ => rfl
    | 10, _, _ => rfl
    | 11, _, _ => rfl
    | 12, _, _ => rfl
    | 13, _, _ => rfl
    | 14, _, _ => rfl
    | 15, _, _ => rfl
    | 16, _, _ => rfl
    | 17, _, _ => rfl
    | 18, _, _ => rfl
    | 19, _, _ => rfl
    | 20, _, _ => rfl
    | 21, _, _ => rfl
    | 22, _, _ => rfl
    | 23, _, _ => rfl
    | 24, _, _ => rfl
    | 25, _, _ => rfl
    | 26, _, _ => rfl
    | 27, _, _ => rfl
    | 28, _, _ => rfl
    | 29, _, _ => rfl
    | 30, _, _ => rfl
    | 31, _, _ => rfl
    | 32, _, _ => rfl
    | 33, _, _ => rfl
    | 34, _, _ => rfl
    | 35, _, _ => rfl
    | 0, h, _ => exact absurd rfl h
    | n + 36, _, h => omega
  · obtain ⟨d, rfl⟩ : ∃ d, c = 36 + d := ⟨c - 36, by omega⟩
    have hd : d < 80 := by omega
    clear h1 h2
    match d, hd with
    | 0, _ => rfl
    | 1, _ => rfl
    | 2, _ => rfl
    | 3, _ => rfl
    | 4, _ => rfl
    | 5, _ => rfl
    | 6, _ => rfl
    | 7, _ => rfl
    | 8, _ => rfl
    | 9, _ => rfl
    | 10, _ => rfl
    | 11, _ => rfl
    | 12, _ => rfl
    | 13, _ => rfl
    | 14, _ => rfl
    | 15, _ => rfl
    | 16, _ => rfl
    | 17, _ => rfl
    | 18, _ => rfl
    | 19, _ => rfl
    | 20, _ => rfl
    | 21, _ => rfl
    | 22, _ => rfl
    | 23, _ => rfl
    | 24, _ => rfl
    | 25, _ => rfl
    | 26, _ => rfl
    | 27, _ => rfl
    | 28, _ => rfl
    | 29, _ => rfl
    | 30, _ => rfl
    | 31, _ => rfl
    | 32, _ => rfl
    | 33, _ => rfl
    | 34, _ => rfl
    | 35, _ => rfl
    | 36, _ => rfl
    | 37, _ => rfl
    | 38, _ => rfl
    | 39, _ => rfl
    | 40, _ => rfl
    | 41, _ => rfl
    | 42, _ => rfl
    | 43, _ => rfl
    | 44, _ => rfl
    | 45, _ => rfl
    | 46, _ => rfl
    | 47, _ => rfl
    | 48, _ => rfl
    | 49, _ => rfl
    | 50, _ => rfl
    | 51, _ => rfl
    | 52, _ => rfl
    | 53, _ => rfl
    | 54, _ => rfl
    | 55, _ => rfl
    | 56, _ => rfl
    | 57, _ => rfl
    | 58, _ => rfl
    | 59, _ => rfl
    | 60, _ => rfl
    | 61, _ => rfl
    | 62, _ => rfl
    | 63, _ => rfl
    | 64, _ => rfl
    | 65, _ => rfl
    | 66, _ => rfl
    | 67, _ => rfl
    | 68, _ => rfl
    | 69, _ => rfl
    | 70, _ => rfl
    | 71, _ => rfl
    | 72, _ => rfl
    | 73, _ => rfl
    | 74, _ => rfl
    | 75, _ => rfl
    | 76, _ => rfl
    | 77, _ => rfl
    | 78, _ => rfl
    | 79, _ => rfl
    | n + 80, h => omega
theorem saveState_6 {m : gM} (h : m 0 3 = Int32.ofNat 6) : svd 5 (f_h_dropOldest m) (f_h_saveState m) ∧ o_h_saveState m := by
  obtain ⟨d1, d2, d3, d4⟩ := drop_f (m := m)
  obtain ⟨s1, s2, s3, s4, s5⟩ := save_5 (f_h_dropOldest m)
  have h6 : m 0 3 = (6 : Int32) := h
  have hz : f_h_dropOldest m 0 3 = (5 : Int32) := by rw [d3, upd_at, if_pos rfl, h]; decide
  have n0 : ¬ (f_h_dropOldest m 0 3 = (0 : Int32)) := by rw [hz]; decide
  have n1 : ¬ (f_h_dropOldest m 0 3 = (1 : Int32)) := by rw [hz]; decide
  have n2 : ¬ (f_h_dropOldest m 0 3 = (2 : Int32)) := by rw [hz]; decide
  have n3 : ¬ (f_h_dropOldest m 0 3 = (3 : Int32)) := by rw [hz]; decide
  have n4 : ¬ (f_h_dropOldest m 0 3 = (4 : Int32)) := by rw [hz]; decide
  unfold f_h_saveState o_h_saveState
  rw [if_pos h6, if_pos h6]
  simp only [g_let_def]
  rw [if_neg n0, if_neg n0, if_neg n1, if_neg n1, if_neg n2, if_neg n2, if_neg n3, if_neg n3, if_neg n4, if_neg n4, if_pos hz, if_pos hz]
  exact ⟨svd_of (by decide) ⟨s1, s2, s3, s4⟩, d4, s5, trivial⟩
