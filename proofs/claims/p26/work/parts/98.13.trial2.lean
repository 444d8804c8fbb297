/-! all pages, round by round: the loops -/
theorem in31 {m : gM} {x1 x2 x3 : Int32} {r : Nat} (hok : ∀ j, j < 360 → okS (sqS m j) (j % 40)) (hr : r < 9) :
    rOk (L_h_copiesOfRewriting_31 x1 x2 x3) (K_h_copiesOfRewriting_31 x1 x2 x3) 400 ((0 : Int32), sqS m (40 * r)) ∧ run (L_h_copiesOfRewriting_31 x1 x2 x3) 400 ((0 : Int32), sqS m (40 * r)) = (Int32.ofNat 40, sqS m (40 * (r + 1))) := by
  refine run_count (N := 40) (fuel := 400) (fun i (z : Int32 × gM) => z = (Int32.ofNat i, sqS m (40 * r + i))) (fun (z : Int32 × gM) => z = (Int32.ofNat 40, sqS m (40 * (r + 1)))) (by decide) rfl (fun i z hi hz => ?_) (fun z hz => ?_)
  · subst hz
    have h40 : (40 * r + i) % 40 = i := by omega
    have hs : sqS m (40 * r + i + 1) = stS (sqS m (40 * r + i)) i := by
      show stS (sqS m (40 * r + i)) ((40 * r + i) % 40) = _; rw [h40]
    obtain ⟨o1, o2⟩ := hok (40 * r + i) (by omega)
    rw [h40] at o1 o2
    have ii := nI_ix (show i < 2147483648 by omega)
    have vi := vp_in_nI hi (show 40 < 2 ^ 31 by omega)
    rw [show 40 * r + (i + 1) = 40 * r + i + 1 by omega, hs]
    unfold L_h_copiesOfRewriting_31 K_h_copiesOfRewriting_31 stS
    by_cases w : f_s_isWritten (g_sel [20, 21, 22, 23, 24, 25, 26, 27, 28, 29, 30, 31, 32, 33, 34, 35] (sqS m (40 * r + i))) (Int32.ofNat i) = 0
    · rw [if_pos w] at o2
      simp only [g_let_def, if_neg (lq40 hi), if_pos w, e1r]
      exact ⟨⟨o1, o2, trivial⟩, trivial, trivial⟩
    · rw [if_neg w] at o2
      simp only [g_let_def, if_neg (lq40 hi), if_neg w, ii, e1r]
      exact ⟨⟨o1, vi, o2, trivial⟩, trivial, trivial⟩
  · subst hz
    have hle : (40 : Int32) ≤ Int32.ofNat 40 := by decide
    unfold L_h_copiesOfRewriting_31 K_h_copiesOfRewriting_31
    simp only [if_pos hle]
    refine ⟨trivial, trivial, ?_⟩
    first | trivial | rfl
theorem in23 {m : gM} {x1 : Int32} {k : Nat} (hok : ∀ j, j < 360 → okS (sqS m j) (j % 40)) (hk : k ≤ 9) :
    rOk (L_h_copiesOfRewriting_23 x1 (Int32.ofNat k)) (K_h_copiesOfRewriting_23 x1 (Int32.ofNat k)) 400 ((0 : Int32), m) ∧ run (L_h_copiesOfRewriting_23 x1 (Int32.ofNat k)) 400 ((0 : Int32), m) = (Int32.ofNat k, sqS m (40 * k)) := by
  refine run_count (N := k) (fuel := 400) (fun i (z : Int32 × gM) => z = (Int32.ofNat i, sqS m (40 * i))) (fun (z : Int32 × gM) => z = (Int32.ofNat k, sqS m (40 * k))) (by omega) rfl (fun i z hi hz => ?_) (fun z hz => ?_)
  · subst hz
    have hlt : ¬ (Int32.ofNat k ≤ Int32.ofNat i) := fun w => by have := (leI (by omega) (by omega)).mp w; omega
    obtain ⟨q1, q2⟩ := in31 (x1 := x1) (x2 := Int32.ofNat k) (x3 := Int32.ofNat i) hok (show i < 9 by omega)
    unfold L_h_copiesOfRewriting_23 K_h_copiesOfRewriting_23
    simp only [g_let_def, if_neg hlt, q2, e1r]
    exact ⟨⟨q1, trivial⟩, trivial, trivial⟩
  · subst hz
    have hle : Int32.ofNat k ≤ Int32.ofNat k := (leI (by omega) (by omega)).mpr (by omega)
    unfold L_h_copiesOfRewriting_23 K_h_copiesOfRewriting_23
    simp only [if_pos hle]
    refine ⟨trivial, trivial, ?_⟩
    first | trivial | rfl
theorem d40 : ∀ k, k < 361 → Int32.ofNat k - Int32.ofNat k / (40 : Int32) * (40 : Int32) = Int32.ofNat (k % 40) := by decide +kernel
theorem in27 {M : gM} {x2 : Int32} {k : Nat} (hok : ∀ j, j < 360 → okR (sqR ((0 : Int32), M) j).2 (j % 40)) (hk : k ≤ 9) :
    rOk (L_r_rewritten_27 (Int32.ofNat k) x2) (K_r_rewritten_27 (Int32.ofNat k) x2) 400 ((0 : Int32), (0 : Int32), M) ∧ run (L_r_rewritten_27 (Int32.ofNat k) x2) 400 ((0 : Int32), (0 : Int32), M) = ((sqR ((0 : Int32), M) (40 * k)).1, Int32.ofNat (40 * k), (sqR ((0 : Int32), M) (40 * k)).2) := by
  have e40 : (40 : Int32) * Int32.ofNat k = Int32.ofNat (40 * k) := nI_times 40 k
  refine run_count (N := 40 * k) (fuel := 400) (fun j (z : Int32 × Int32 × gM) => z = ((sqR ((0 : Int32), M) j).1, Int32.ofNat j, (sqR ((0 : Int32), M) j).2)) (fun (z : Int32 × Int32 × gM) => z = ((sqR ((0 : Int32), M) (40 * k)).1, Int32.ofNat (40 * k), (sqR ((0 : Int32), M) (40 * k)).2)) (by omega) rfl (fun j z hj hz => ?_) (fun z hz => ?_)
  · subst hz
    have hlt : ¬ (Int32.ofNat (40 * k) ≤ Int32.ofNat j) := fun w => by have := (leI (by omega) (by omega)).mp w; omega
    obtain ⟨o1, o2⟩ := hok j (by omega)
    have hs : sqR ((0 : Int32), M) (j + 1) = stR (sqR ((0 : Int32), M) j) (j % 40) := rfl
    rw [hs]
    unfold L_r_rewritten_27 K_r_rewritten_27 stR
    by_cases w : f_r_of (g_sel [2] (sqR ((0 : Int32), M) j).2) (Int32.ofNat (j % 40)) (1 : Int32) = -1
    · rw [if_pos w] at o2
      simp only [g_let_def, e40, if_neg hlt, d40 j (by omega), if_pos w, e1r]
      exact ⟨⟨o1, o2, trivial⟩, trivial, trivial⟩
    · rw [if_neg w] at o2
      simp only [g_let_def, e40, if_neg hlt, d40 j (by omega), if_neg w, e1r]
      exact ⟨⟨o1, o2, trivial⟩, trivial, trivial⟩
  · subst hz
    have hle : Int32.ofNat (40 * k) ≤ Int32.ofNat (40 * k) := (leI (by omega) (by omega)).mpr (by omega)
    unfold L_r_rewritten_27 K_r_rewritten_27
    simp only [e40, if_pos hle]
    refine ⟨trivial, trivial, ?_⟩
    first | trivial | rfl
/-- rounds over all pages with a rule, on trial -/
theorem rewr_RS {c k u : Nat} {mh M : gM} (hq : hQ c 4 mh (M 1)) (hk : k ≤ 9) (hu : u < 3) (hc : c + 97 * 361 < 100000000) :
    o_h_copiesOfRewriting mh (Int32.ofNat u) (Int32.ofNat k) ∧ o_r_rewritten M (Int32.ofNat k) (Int32.ofNat u) ∧ (f_h_copiesOfRewriting mh (Int32.ofNat u) (Int32.ofNat k)).1 = (f_r_rewritten M (Int32.ofNat k) (Int32.ofNat u)).1 ∧ (∀ x, ¬ (20 ≤ x ∧ x < 36) → (f_h_copiesOfRewriting mh (Int32.ofNat u) (Int32.ofNat k)).2 x = mh x) ∧ (∀ x, x ≠ 2 → (f_r_rewritten M (Int32.ofNat k) (Int32.ofNat u)).2 x = M x) := by
  obtain ⟨a1, a2, a3⟩ := trial_h hq
  obtain ⟨b1, b2, b3⟩ := trial_r M
  generalize eS : g_mrg [20, 21, 22, 23, 24, 25, 26, 27, 28, 29, 30, 31, 32, 33, 34, 35, 4, 5, 6, 7, 8, 9, 10, 11, 12, 13, 14, 15, 16, 17, 18, 19] mh (f_s_becomeLike (g_sel [20, 21, 22, 23, 24, 25, 26, 27, 28, 29, 30, 31, 32, 33, 34, 35, 4, 5, 6, 7, 8, 9, 10, 11, 12, 13, 14, 15, 16, 17, 18, 19] mh)) = S at *
  generalize eT : g_mrg [1, 2] M (f_r_lays3 (g_sel [1, 2] M) (0 : Int32) (0 : Int32)) = T at *
  have a4 := selQ20 a2
  rw [← b2] at a4
  have i0 : (0 : Int32).toNatClampNeg = 0 := by decide
  have hu3 : (0 = 0 ∧ (Int32.ofNat u = 0 ∨ Int32.ofNat u = 1 ∨ Int32.ofNat u = 2)) ∨ (0 = 1 ∧ (Int32.ofNat u = 2 ∨ Int32.ofNat u = 3 ∨ Int32.ofNat u = 4)) := by
    refine Or.inl ⟨rfl, ?_⟩
    match u, hu with
    | 0, _ => exact Or.inl rfl
    | 1, _ => exact Or.inr (Or.inl rfl)
    | 2, _ => exact Or.inr (Or.inr rfl)
    | n + 3, z => omega
  have k1 := set_RS (i := 0) (x := Int32.ofNat u) a4 hu3
  have hT2 : vA ((g_set T 2 (upd (T 2) (358 : Int32).toNatClampNeg (Int32.ofNat u))) 2) = sIn (vA (T 2)) 13 0 (Int32.ofNat u) := by
    rw [g_set_s]; exact rs13_0 (m := fun _ => T 2)
  have k2 : jQ c (8 * c) (g_sel [20, 21, 22, 23, 24, 25, 26, 27, 28, 29, 30, 31, 32, 33, 34, 35] (g_set S 35 (upd (S 35) 0 (Int32.ofNat u)))) (sIn (vA (T 2)) 13 0 (Int32.ofNat u)) := by
    refine ⟨jR_cell (m := g_set (g_sel [20, 21, 22, 23, 24, 25, 26, 27, 28, 29, 30, 31, 32, 33, 34, 35] S) 15 (upd ((g_sel [20, 21, 22, 23, 24, 25, 26, 27, 28, 29, 30, 31, 32, 33, 34, 35] S) 15) 0 (Int32.ofNat u))) (fun k z1 z2 => ?_) rfl rfl k1.1, k1.2⟩
    match k, z1, z2 with
    | 1, _, _ => rfl
    | 2, _, _ => rfl
    | 3, _, _ => rfl
    | 4, _, _ => rfl
    | 5, _, _ => rfl
    | 6, _, _ => rfl
    | 7, _, _ => rfl
    | 8, _, _ => rfl
    | 9, _, _ => rfl
    | 10, _, _ => rfl
    | 11, _, _ => rfl
    | 12, _, _ => rfl
    | 13, _, _ => rfl
    | 14, _, _ => rfl
    | 15, _, _ => rfl
    | n + 16, _, z => omega
    | 0, z, _ => omega
  rw [← hT2] at k2
  generalize eS' : g_set S 35 (upd (S 35) 0 (Int32.ofNat u)) = S' at *
  generalize eT' : g_set T 2 (upd (T 2) (358 : Int32).toNatClampNeg (Int32.ofNat u)) = T' at *
  have hS' : ∀ x, ¬ (20 ≤ x ∧ x < 36) → S' x = mh x := fun x hx => by rw [← eS', g_set_n (by omega), a3 x hx]
  have hT' : ∀ x, x ≠ 2 → T' x = M x := fun x hx => by rw [← eT', g_set_n hx, b3 x hx]
  have hj0 : tJ c (vA (T' 2)) S' T' 0 S' ((0 : Int32), T') := ⟨0, rfl, wS_0 k2, fun _ _ => rfl, fun _ _ => rfl⟩
  have hall := tJ_all (z := ((0 : Int32), T')) hj0 hc
  have hokS : ∀ j, j < 360 → okS (sqS S' j) (j % 40) := fun j hj => (tJ_step (hall j (by omega)) (show j % 40 < 40 by omega) (by omega)).2.1
  have hokR : ∀ j, j < 360 → okR (sqR ((0 : Int32), T') j).2 (j % 40) := fun j hj => (tJ_step (hall j (by omega)) (show j % 40 < 40 by omega) (by omega)).2.2
  obtain ⟨l1, l2⟩ := in23 (x1 := Int32.ofNat u) hokS hk
  obtain ⟨l3, l4⟩ := in27 (x2 := Int32.ofNat u) hokR hk
  obtain ⟨x, j1, j2, j3, j4⟩ := hall (40 * k) (by omega)
  unfold f_h_copiesOfRewriting o_h_copiesOfRewriting f_r_rewritten o_r_rewritten
  simp only [g_let_def, eS, eT, i0, eS', eT', l2, l4]
  have hnow : jQ c (8 * c) (g_sel [4, 5, 6, 7, 8, 9, 10, 11, 12, 13, 14, 15, 16, 17, 18, 19] (sqS S' (40 * k))) (vA (M 1)) := by
    have e : ∀ j, j < 16 → sqS S' (40 * k) (4 + j) = mh (4 + j) := fun j hj => by rw [j3 _ (by omega), hS' _ (by omega)]
    exact selQ (hQ_cell (b := 4) (m := mh) (fun j h1 h2 => e j h2) (congrFun (e 0 (by omega)) 15) (congrFun (e 0 (by omega)) 16) (fun _ _ => rfl) hq)
  refine ⟨⟨a1, l1, trivial, trivial, trivial⟩, ⟨b1, l3, trivial⟩, ?_, fun x hx => ?_, fun x hx => ?_⟩
  · rw [copies_of hnow, copies_of j2.1, j1, j2.2.2.2.2]
    have e3 : vA (T' 2) 13 3 = vA (M 1) 13 3 := by
      rw [hT2, ← b2]; rfl
    rw [e3, sub_same]
  · rw [j3 x hx, hS' x hx]
  · rw [j4 x hx]; exact hT' x hx
theorem Rl_t {n : Nat} {mh mh' mr mr' : gM} (h : Rl n mh mr) (h1 : ∀ x, ¬ (20 ≤ x ∧ x < 36) → mh' x = mh x) (h2 : ∀ x, x ≠ 2 → mr' x = mr x) : Rl n mh' mr' := by
  obtain ⟨g1, ⟨k, hk, g2⟩, g3⟩ := h
  have a0 := h1 0 (by omega)
  have b0 := h2 0 (by omega)
  refine ⟨?_, ⟨k, hk, rSv_same (by rw [a0]) (fun x hx1 hx2 => h1 x (by omega)) (by rw [b0]) (h2 3 (by omega)) hk g2⟩, rTx_same (h1 2 (by omega)) (by rw [a0]) (h2 4 (by omega)) (by rw [b0]) g3⟩
  rw [h2 1 (by omega)]
  exact hQ_cell (b := 4) (m := mh) (fun j hj1 hj2 => h1 _ (by omega)) (congrFun (h1 4 (by omega)) 15) (congrFun (h1 4 (by omega)) 16) (fun _ _ => rfl) g1
theorem ge1 {x y : Int32} (h : ¬ x ≤ y) : ¬ x ≤ y := h
/-- the best rule -/
theorem best_RS {c k : Nat} {mh M : gM} (hq : hQ c 4 mh (M 1)) (hk : k ≤ 9) (hk1 : 1 ≤ k) (hc : c + 97 * 361 < 100000000) :
    o_h_bestRule mh (Int32.ofNat k) ∧ o_r_best M (Int32.ofNat k) ∧ (f_h_bestRule mh (Int32.ofNat k)).1 = (f_r_best M (Int32.ofNat k)).1 ∧ (∀ x, ¬ (20 ≤ x ∧ x < 36) → (f_h_bestRule mh (Int32.ofNat k)).2 x = mh x) ∧ (∀ x, x ≠ 2 → (f_r_best M (Int32.ofNat k)).2 x = M x) := by
  have hsame : ∀ mh' M' : gM, (∀ x, ¬ (20 ≤ x ∧ x < 36) → mh' x = mh x) → (∀ x, x ≠ 2 → M' x = M x) → hQ c 4 mh' (M' 1) := by
    intro mh' M' h1 h2
    rw [h2 1 (by omega)]
    exact hQ_cell (b := 4) (m := mh) (fun j hj1 hj2 => h1 _ (by omega)) (congrFun (h1 4 (by omega)) 15) (congrFun (h1 4 (by omega)) 16) (fun _ _ => rfl) hq
  obtain ⟨r1, r2, r3, r4, r5⟩ := rewr_RS (k := k) (u := 0) hq hk (by omega) hc
  have e0 : Int32.ofNat 0 = (0 : Int32) := rfl
  rw [e0] at r1 r2 r3 r4 r5
  have c1 : ¬ (Int32.ofNat k < (1 : Int32)) := fun w => by have := (ltI (b := 1) (by omega) (by omega)).mp w; omega
  have c2 : Int32.ofNat k ≤ (9 : Int32) := (leI (b := 9) (by omega) (by omega)).mpr hk
  have hL := run2 (f := L_h_bestRule_33 (Int32.ofNat k)) (g := L_r_best_12 (Int32.ofNat k)) (K := K_h_bestRule_33 (Int32.ofNat k)) (K' := K_r_best_12 (Int32.ofNat k)) (n := 2) (fuel := 400) (fuel' := 400) (z := ((0 : Int32), (f_h_copiesOfRewriting mh (0 : Int32) (Int32.ofNat k)).1, (1 : Int32), (f_h_copiesOfRewriting mh (0 : Int32) (Int32.ofNat k)).2)) (w := ((0 : Int32), (f_r_rewritten M (Int32.ofNat k) (0 : Int32)).1, (1 : Int32), (f_r_rewritten M (Int32.ofNat k) (0 : Int32)).2))
    (fun n (z : Int32 × Int32 × Int32 × gM) (w : Int32 × Int32 × Int32 × gM) => ∃ u, n + u = 3 ∧ z.1 = w.1 ∧ z.2.1 = w.2.1 ∧ z.2.2.1 = Int32.ofNat u ∧ w.2.2.1 = Int32.ofNat u ∧ (∀ x, ¬ (20 ≤ x ∧ x < 36) → z.2.2.2 x = mh x) ∧ (∀ x, x ≠ 2 → w.2.2.2 x = M x))
    (fun (z : Int32 × Int32 × Int32 × gM) (w : Int32 × Int32 × Int32 × gM) => z.1 = w.1 ∧ (∀ x, ¬ (20 ≤ x ∧ x < 36) → z.2.2.2 x = mh x) ∧ (∀ x, x ≠ 2 → w.2.2.2 x = M x))
    (by omega) (by omega) ⟨1, rfl, rfl, r3, rfl, rfl, r4, r5⟩ (fun n z w hI => ?_)
  · obtain ⟨a1, a2, a3, a4, a5⟩ := hL
    unfold f_h_bestRule o_h_bestRule f_r_best o_r_best
    simp only [g_let_def, if_neg c1, if_pos c2]
    exact ⟨⟨r1, a1, trivial⟩, ⟨r2, a2, trivial⟩, a3, a4, a5⟩
  · obtain ⟨z1, z2, z3, zm⟩ := z
    obtain ⟨w1, w2, w3, wm⟩ := w
    obtain ⟨u, hu, i1, i2, i3, i4, i5, i6⟩ := hI
    dsimp only at i1 i2 i3 i4 i5 i6
    subst i1
    subst i2
    subst i3
    subst i4
    by_cases hu3 : u < 3
    · have hlt : ¬ ((3 : Int32) ≤ Int32.ofNat u) := fun w => by have := (leI (a := 3) (by omega) (by omega)).mp w; omega
      obtain ⟨q1, q2, q3, q4, q5⟩ := rewr_RS (k := k) (u := u) (hsame zm wm i5 i6) hk hu3 hc
      unfold L_h_bestRule_33 K_h_bestRule_33 L_r_best_12 K_r_best_12
      by_cases w : z2 ≤ (f_r_rewritten wm (Int32.ofNat k) (Int32.ofNat u)).1
      · simp only [g_let_def, if_neg hlt, q3, if_pos w, e1r]
        exact ⟨⟨q1, trivial⟩, ⟨q2, trivial⟩, Or.inl ⟨trivial, trivial, n - 1, by omega, u + 1, by omega, trivial, trivial, rfl, rfl, fun x hx => (q4 x hx).trans (i5 x hx), fun x hx => (q5 x hx).trans (i6 x hx)⟩⟩
      · simp only [g_let_def, if_neg hlt, q3, if_neg w, e1r]
        exact ⟨⟨q1, trivial⟩, ⟨q2, trivial⟩, Or.inl ⟨trivial, trivial, n - 1, by omega, u + 1, by omega, trivial, trivial, rfl, rfl, fun x hx => (q4 x hx).trans (i5 x hx), fun x hx => (q5 x hx).trans (i6 x hx)⟩⟩
    · have hle : (3 : Int32) ≤ Int32.ofNat u := (leI (a := 3) (by omega) (by omega)).mpr (by omega)
      unfold L_h_bestRule_33 K_h_bestRule_33 L_r_best_12 K_r_best_12
      simp only [if_pos hle]
      exact ⟨trivial, trivial, Or.inr ⟨trivial, trivial, trivial, i5, i6⟩⟩
theorem bd2 {n : Nat} (hn : n < 512) : 116400 * n + 97 * 361 < 100000000 := by omega
theorem op_ifWritten_ok {n : Nat} {mh mr : gM} (hn : n < 512) (h : Rl n mh mr) (a1 a2 a3 : Int32) : op_ifWritten (Rl (n + 1)) mh mr a1 a2 a3 := by
  obtain ⟨hR, hT⟩ := selQ h.1
  have hV := hT.1
  obtain ⟨bd1, bd2⟩ := bd hn
  rcases isIn_c (M := 40) (L := 39) 40 a1 (by omega) (by omega) rfl rfl with ⟨u0, v0⟩ | ⟨p, hp, ep, u0, v0⟩
  · have v0' : f_r_isPage a1 = 0 := v0
    refine ⟨?_, Or.inr (Or.inl ⟨?_, ?_, ?_, ?_⟩)⟩
    · unfold o_r_ifWritten
      simp only [g_let_def, if_pos v0']
      exact ⟨o_isPage _, fl_o _ _, trivial⟩
    · unfold ox_h_ifWritten
      simp only [if_pos u0]
      exact ⟨o_isIn _ _, trivial⟩
    · unfold fx_h_ifWritten
      simp only [if_pos u0]
    · unfold f_r_ifWritten
      simp only [g_let_def, if_pos v0']
      exact fl_thrown _ _
    · unfold f_r_ifWritten
      simp only [g_let_def, if_pos v0']
      exact fl_Rl _ h
  · have v0' : ¬ (f_r_isPage a1 = 0) := v0
    rcases isIn_c (M := 4) (L := 3) 4 a2 (by omega) (by omega) rfl rfl with ⟨u1, v1⟩ | ⟨q, hq, eq, u1, v1⟩
    · have v1' : f_r_isHint a2 = 0 := v1
      refine ⟨?_, Or.inr (Or.inr (⟨?_, ?_, ?_, ?_⟩))⟩
      · unfold o_r_ifWritten
        simp only [g_let_def, if_neg v0', if_pos v1']
        exact ⟨o_isPage _, o_isHint _, fl_o _ _, trivial⟩
      · unfold ox_h_ifWritten
        simp only [if_neg u0, if_pos u1]
        exact ⟨o_isIn _ _, o_isIn _ _, trivial⟩
      · unfold fx_h_ifWritten
        simp only [if_neg u0, if_pos u1]
      · unfold f_r_ifWritten
        simp only [g_let_def, if_neg v0', if_pos v1']
        exact fl_thrown _ _
      · unfold f_r_ifWritten
        simp only [g_let_def, if_neg v0', if_pos v1']
        exact fl_Rl _ h
    · have v1' : ¬ (f_r_isHint a2 = 0) := v1
      rcases isIn_c (M := 3) (L := 2) 3 a3 (by omega) (by omega) rfl rfl with ⟨u2, v2⟩ | ⟨r, hr, er, u2, v2⟩
      · have v2' : f_r_in a3 (0 : Int32) (2 : Int32) = 0 := v2
        refine ⟨?_, Or.inr (Or.inr (⟨?_, ?_, ?_, ?_⟩))⟩
        · unfold o_r_ifWritten
          simp only [g_let_def, if_neg v0', if_neg v1', if_pos v2']
          exact ⟨o_isPage _, o_isHint _, o_in _ _ _, fl_o _ _, trivial⟩
        · unfold ox_h_ifWritten
          simp only [if_neg u0, if_neg u1, if_pos u2]
          exact ⟨o_isIn _ _, o_isIn _ _, o_isIn _ _, trivial⟩
        · unfold fx_h_ifWritten
          simp only [if_neg u0, if_neg u1, if_pos u2]
        · unfold f_r_ifWritten
          simp only [g_let_def, if_neg v0', if_neg v1', if_pos v2']
          exact fl_thrown _ _
        · unfold f_r_ifWritten
          simp only [g_let_def, if_neg v0', if_neg v1', if_pos v2']
          exact fl_Rl _ h
      · have v2' : ¬ (f_r_in a3 (0 : Int32) (2 : Int32) = 0) := v2
        subst ep
        subst eq
        subst er
        obtain ⟨k1, k2, k3⟩ := try_RS (mh := mh) (M := g_set mr 0 (upd (mr 0) 6 (0 : Int32))) (p := p) (h := q) h.1 hp hq (by omega)
        obtain ⟨k4, k5, k6, k7⟩ := k3 r hr
        have k8 : f_r_thrown (f_r_written (g_set mr 0 (upd (mr 0) 6 (0 : Int32))) (Int32.ofNat p) (Int32.ofNat q) (Int32.ofNat r)).2 = 0 := by
          unfold f_r_thrown; rw [k7 0 (by decide)]; rfl
        refine ⟨?_, Or.inl ⟨?_, ?_, ?_, ?_⟩⟩
        · unfold o_r_ifWritten
          simp only [g_let_def, if_neg v0', if_neg v1', if_neg v2']
          exact ⟨o_isPage _, o_isHint _, o_in _ _ _, k5, trivial⟩
        · unfold o_h_ifWritten
          simp only [g_let_def, if_neg u0, if_neg u1, if_neg u2]
          exact ⟨o_isIn _ _, o_isIn _ _, o_isIn _ _, k1, k4, trivial⟩
        · unfold f_r_ifWritten
          simp only [g_let_def, if_neg v0', if_neg v1', if_neg v2']
          exact k8
        · unfold f_h_ifWritten f_r_ifWritten
          simp only [g_let_def, if_neg u0, if_neg u1, if_neg u2, if_neg v0', if_neg v1', if_neg v2']
          exact k6
        · unfold f_h_ifWritten f_r_ifWritten
          simp only [g_let_def, if_neg u0, if_neg u1, if_neg u2, if_neg v0', if_neg v1', if_neg v2']
          exact Rl_t (z_Rl h) k2 k7
theorem op_ifRewritten_ok {n : Nat} {mh mr : gM} (hn : n < 512) (h : Rl n mh mr) (a1 : Int32) : op_ifRewritten (Rl (n + 1)) mh mr a1 := by
  obtain ⟨hR, hT⟩ := selQ h.1
  have hV := hT.1
  obtain ⟨bd1, bd2'⟩ := bd hn
  rcases in_c (L := 1) (M := 9) 1 9 a1 (by omega) (by omega) (by omega) rfl rfl with ⟨c1, c3⟩ | ⟨c1, c2, c3⟩ | ⟨k, hk1, hk2, ek, c1, c2, c3⟩
  · refine ⟨?_, Or.inr (⟨?_, ?_, ?_, ?_⟩)⟩
    · unfold o_r_ifRewritten
      simp only [g_let_def, if_pos c3]
      exact ⟨o_in _ _ _, fl_o _ _, trivial⟩
    · unfold ox_h_ifRewritten
      simp only [if_pos c1]
    · unfold fx_h_ifRewritten
      simp only [if_pos c1]
    · unfold f_r_ifRewritten
      simp only [g_let_def, if_pos c3]
      exact fl_thrown _ _
    · unfold f_r_ifRewritten
      simp only [g_let_def, if_pos c3]
      exact fl_Rl _ h
  · refine ⟨?_, Or.inr (⟨?_, ?_, ?_, ?_⟩)⟩
    · unfold o_r_ifRewritten
      simp only [g_let_def, if_pos c3]
      exact ⟨o_in _ _ _, fl_o _ _, trivial⟩
    · unfold ox_h_ifRewritten
      simp only [if_neg c1, if_neg c2]
    · unfold fx_h_ifRewritten
      simp only [if_neg c1, if_neg c2]
    · unfold f_r_ifRewritten
      simp only [g_let_def, if_pos c3]
      exact fl_thrown _ _
    · unfold f_r_ifRewritten
      simp only [g_let_def, if_pos c3]
      exact fl_Rl _ h
  · subst ek
    have hu : ∃ u, u < 3 ∧ vA (mr 1) 13 0 = Int32.ofNat u := by
      obtain ⟨-, -, -, -, -, -, -, -, -, z | z | z, -⟩ := hV
      · exact ⟨0, by omega, z⟩
      · exact ⟨1, by omega, z⟩
      · exact ⟨2, by omega, z⟩
    obtain ⟨u, hu, eu⟩ := hu
    have h19 : mh 19 (0 : Int32).toNatClampNeg = Int32.ofNat u := by rw [← eu]; exact hR.2.2.2.2.2.1
    have h358 : (g_set mr 0 (upd (mr 0) 6 (0 : Int32))) 1 (358 : Int32).toNatClampNeg = Int32.ofNat u := eu
    obtain ⟨k1, k2, k3, k4, k5⟩ := rewr_RS (M := g_set mr 0 (upd (mr 0) 6 (0 : Int32))) h.1 hk2 hu (bd2 hn)
    have k8 : f_r_thrown (f_r_rewritten (g_set mr 0 (upd (mr 0) 6 (0 : Int32))) (Int32.ofNat k) (Int32.ofNat u)).2 = 0 := by
      unfold f_r_thrown; rw [k5 0 (by decide)]; rfl
    refine ⟨?_, Or.inl ⟨?_, ?_, ?_, ?_⟩⟩
    · unfold o_r_ifRewritten
      simp only [g_let_def, if_neg c3, h358]
      exact ⟨o_in _ _ _, k2, trivial⟩
    · unfold o_h_ifRewritten
      simp only [g_let_def, if_neg c1, if_pos c2, h19]
      exact ⟨k1, trivial⟩
    · unfold f_r_ifRewritten
      simp only [g_let_def, if_neg c3, h358]
      exact k8
    · unfold f_h_ifRewritten f_r_ifRewritten
      simp only [g_let_def, if_neg c1, if_pos c2, if_neg c3, h19, h358]
      exact k3
    · unfold f_h_ifRewritten f_r_ifRewritten
      simp only [g_let_def, if_neg c1, if_pos c2, if_neg c3, h19, h358]
      exact Rl_t (z_Rl h) k4 k5
theorem op_bestRule_ok {n : Nat} {mh mr : gM} (hn : n < 512) (h : Rl n mh mr) (a1 : Int32) : op_bestRule (Rl (n + 1)) mh mr a1 := by
  obtain ⟨hR, hT⟩ := selQ h.1
  have hV := hT.1
  obtain ⟨bd1, bd2'⟩ := bd hn
  rcases in_c (L := 1) (M := 9) 1 9 a1 (by omega) (by omega) (by omega) rfl rfl with ⟨c1, c3⟩ | ⟨c1, c2, c3⟩ | ⟨k, hk1, hk2, ek, c1, c2, c3⟩
  · refine ⟨?_, Or.inr (⟨?_, ?_, ?_, ?_⟩)⟩
    · unfold o_r_bestRule
      simp only [g_let_def, if_pos c3]
      exact ⟨o_in _ _ _, fl_o _ _, trivial⟩
    · unfold ox_h_bestRule
      simp only [if_pos c1]
    · unfold fx_h_bestRule
      simp only [if_pos c1]
    · unfold f_r_bestRule
      simp only [g_let_def, if_pos c3]
      exact fl_thrown _ _
    · unfold f_r_bestRule
      simp only [g_let_def, if_pos c3]
      exact fl_Rl _ h
  · refine ⟨?_, Or.inr (⟨?_, ?_, ?_, ?_⟩)⟩
    · unfold o_r_bestRule
      simp only [g_let_def, if_pos c3]
      exact ⟨o_in _ _ _, fl_o _ _, trivial⟩
    · unfold ox_h_bestRule
      simp only [if_neg c1, if_neg c2]
    · unfold fx_h_bestRule
      simp only [if_neg c1, if_neg c2]
    · unfold f_r_bestRule
      simp only [g_let_def, if_pos c3]
      exact fl_thrown _ _
    · unfold f_r_bestRule
      simp only [g_let_def, if_pos c3]
      exact fl_Rl _ h
  · subst ek
    obtain ⟨k1, k2, k3, k4, k5⟩ := best_RS (M := g_set mr 0 (upd (mr 0) 6 (0 : Int32))) h.1 hk2 hk1 (bd2 hn)
    have k8 : f_r_thrown (f_r_best (g_set mr 0 (upd (mr 0) 6 (0 : Int32))) (Int32.ofNat k)).2 = 0 := by
      unfold f_r_thrown; rw [k5 0 (by decide)]; rfl
    refine ⟨?_, Or.inl ⟨k1, ?_, ?_, ?_⟩⟩
    · unfold o_r_bestRule
      simp only [g_let_def, if_neg c3]
      exact ⟨o_in _ _ _, k2, trivial⟩
    · unfold f_r_bestRule
      simp only [g_let_def, if_neg c3]
      exact k8
    · unfold f_r_bestRule
      simp only [g_let_def, if_neg c3]
      exact k3
    · unfold f_r_bestRule
      simp only [g_let_def, if_neg c3]
      exact Rl_t (z_Rl h) k4 k5
