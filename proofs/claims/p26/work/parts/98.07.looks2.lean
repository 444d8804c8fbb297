/-! looks: streams, numbers -/
def hN (A : gM) (x : Int32) (p : Nat) : Nat := if A 2 p = x then 1 else 0
theorem withHint_R {M A : gM} {x : Int32} (hM : vA (M 1) = A) : f_r_withHint M x = Int32.ofNat (sS 40 (hN A x)) ∧ o_r_withHint M x := by
  have hL := run_count (f := L_r_withHint_4 M x) (K := K_r_withHint_4 M x) (N := 40) (fuel := 400) (z := ((0 : Int32), (0 : Int32))) (fun n z => z = (Int32.ofNat (sS n (hN A x)), Int32.ofNat n)) (fun z => z.1 = Int32.ofNat (sS 40 (hN A x))) (by decide) rfl (fun n z hn hz => ?_) (fun z hz => ?_)
  · unfold f_r_withHint o_r_withHint
    simp only [g_let_def]
    exact ⟨hL.2, hL.1, trivial⟩
  · subst hz
    have o1 := of_A2 (m := g_sel [1] M) hn
    rw [aR_sel1, hM] at o1
    unfold L_r_withHint_4 K_r_withHint_4
    by_cases q : A 2 n = x
    · simp only [g_let_def, if_neg (lq40 hn), o1.1, if_pos q]
      refine ⟨⟨o1.2, trivial⟩, trivial, Prod.ext (sS_acc (x := 1) ?_) (e1r _)⟩
      unfold hN; rw [if_pos q]
    · simp only [g_let_def, if_neg (lq40 hn), o1.1, if_neg q]
      refine ⟨⟨o1.2, trivial⟩, trivial, Prod.ext (sS_acc (x := 0) ?_) (e1r _)⟩
      unfold hN; rw [if_neg q]
  · subst hz
    have hle : (40 : Int32) ≤ Int32.ofNat 40 := by decide
    unfold L_r_withHint_4 K_r_withHint_4
    simp only [if_pos hle]
    refine ⟨trivial, trivial, ?_⟩
    first | trivial | rfl
theorem pagesWithHint_S {m A : gM} {e t x : Nat} (hR : jR m A) (hA : jV e t 99 99 A) (hx : x < 5) : f_s_pagesWithHint m (Int32.ofNat x) = Int32.ofNat (sS 40 (hN A (Int32.ofNat x))) ∧ o_s_pagesWithHint m (Int32.ofNat x) := by
  obtain ⟨ia, ib, ih, -⟩ := hA
  have n10 : ¬ ((1 : Int32) = 0) := by decide
  have hL := run_count (f := L_s_pagesWithHint_4 m (Int32.ofNat x)) (K := K_s_pagesWithHint_4 m (Int32.ofNat x)) (N := 40) (fuel := 400) (z := ((0 : Int32), (0 : Int32))) (fun n z => z = (Int32.ofNat (sS n (hN A (Int32.ofNat x))), Int32.ofNat n)) (fun z => z.1 = Int32.ofNat (sS 40 (hN A (Int32.ofNat x)))) (by decide) rfl (fun n z hn hz => ?_) (fun z hz => ?_)
  · unfold f_s_pagesWithHint o_s_pagesWithHint
    simp only [g_let_def]
    exact ⟨hL.2, hL.1, trivial⟩
  · subst hz
    obtain ⟨w1, w2⟩ := isWritten_S hR hn
    have z0 : Int32.ofNat (sS n (hN A (Int32.ofNat x))) = Int32.ofNat (sS n (hN A (Int32.ofNat x))) + Int32.ofNat 0 := (Int32.add_zero _).symm
    have vn := vp_in_nI hn (show 40 < 2 ^ 31 by omega)
    unfold L_s_pagesWithHint_4 K_s_pagesWithHint_4
    by_cases q : A 1 n = -1
    · have w3 : f_s_isWritten m (Int32.ofNat n) = 0 := by rw [w1, if_pos q]
      simp only [g_let_def, if_neg (lq40 hn), if_pos w3]
      refine ⟨⟨w2, trivial⟩, trivial, Prod.ext (z0.trans (sS_acc (x := 0) ?_)) (e1r _)⟩
      unfold hN; rw [(ih n hn).2 (by omega) q, if_neg (fun u => nI_ne1 (by omega) u.symm)]
    · have w3 : ¬ (f_s_isWritten m (Int32.ofNat n) = 0) := by rw [w1, if_neg q]; exact n10
      obtain ⟨h, hh, q2⟩ := (ih n hn).1 q
      have q3 : m 2 n = A 2 n := (hR.1 n hn).2.1 (by rw [q2]; exact nI_ne1 (by omega))
      by_cases q4 : A 2 n = Int32.ofNat x
      · simp only [g_let_def, if_neg (lq40 hn), if_neg w3, nI_ix (show n < 2147483648 by omega), q3, if_pos q4]
        refine ⟨⟨w2, vn, trivial⟩, trivial, Prod.ext (sS_acc (x := 1) ?_) (e1r _)⟩
        unfold hN; rw [if_pos q4]
      · simp only [g_let_def, if_neg (lq40 hn), if_neg w3, nI_ix (show n < 2147483648 by omega), q3, if_neg q4]
        refine ⟨⟨w2, vn, trivial⟩, trivial, Prod.ext (z0.trans (sS_acc (x := 0) ?_)) (e1r _)⟩
        unfold hN; rw [if_neg q4]
  · subst hz
    have hle : (40 : Int32) ≤ Int32.ofNat 40 := by decide
    unfold L_s_pagesWithHint_4 K_s_pagesWithHint_4
    simp only [if_pos hle]
    refine ⟨trivial, trivial, ?_⟩
    first | trivial | rfl
theorem hint4 {A : gM} {e t : Nat} (hA : jV e t 99 99 A) : sS 40 (hN A (Int32.ofNat 4)) = 0 := by
  obtain ⟨ia, ib, ih, -⟩ := hA
  rw [sS_c (g := fun _ => 0) 40 (fun p hp => ?_)]
  · decide
  · unfold hN
    by_cases q : A 1 p = -1
    · rw [(ih p hp).2 (by omega) q, if_neg (by decide)]
    · obtain ⟨h, hh, q2⟩ := (ih p hp).1 q
      rw [q2, if_neg (fun u => by have := nI_inj (by omega) (by omega) u; omega)]
theorem stream_RS {M m A : gM} {e t s w : Nat} (hM : vA (M 1) = A) (hR : jR m A) (hA : jV e t 99 99 A) (hs : s < 5) (hw : w < 5) : f_s_streamProperty m (Int32.ofNat s) (Int32.ofNat w) = f_r_ofStream M (Int32.ofNat s) (Int32.ofNat w) ∧ o_s_streamProperty m (Int32.ofNat s) (Int32.ofNat w) ∧ o_r_ofStream M (Int32.ofNat s) (Int32.ofNat w) := by
  obtain ⟨a1, a2⟩ := hR.2.2.2.1 s hs
  have ix := nI_ix (show s < 2147483648 by omega)
  have vs := vp_in_nI hs (show 5 < 2 ^ 31 by omega)
  have r10 : M 1 (((344 : Int32) + ((2 : Int32) * Int32.ofNat s))).toNatClampNeg = A 10 s := by rw [rh10 (m := M) hs, hM]
  have r11 : M 1 ((((344 : Int32) + ((2 : Int32) * Int32.ofNat s)) + (1 : Int32))).toNatClampNeg = A 11 s := by rw [rh11 (m := M) hs, hM]
  obtain ⟨p1, p2⟩ := pagesWithHint_S hR hA hs
  have pct : ∀ c, m 14 s = c → f_s_percentOf m (Int32.ofNat s) = (if A 11 s = 0 then 0 else ((100 : Int32) * (A 11 s + c)) / A 11 s) ∧ o_s_percentOf m (Int32.ofNat s) := by
    intro c hc
    unfold f_s_percentOf o_s_percentOf
    simp only [g_let_def, ix, a2, hc]
    refine ⟨trivial, vs, ?_⟩
    split
    · trivial
    · rename_i q; exact ⟨vs, q, trivial⟩
  unfold f_r_ofStream o_r_ofStream
  simp only [g_let_def, r10, r11]
  by_cases h4 : s = 4
  · subst h4
    have e4 : Int32.ofNat 4 = (4 : Int32) := rfl
    have h14 : m 14 4 = 0 := hR.2.2.2.2.1.2
    obtain ⟨q1, q2⟩ := pct 0 h14
    simp only [if_pos e4]
    match w, hw with
    | 0, _ => exact ⟨(show m 12 (Int32.ofNat 4).toNatClampNeg = A 10 4 by rw [ix, a1]), ⟨vs, trivial⟩, ro11 hs, ro10 hs, trivial⟩
    | 1, _ => exact ⟨(show m 13 (Int32.ofNat 4).toNatClampNeg = A 11 4 by rw [ix, a2]), ⟨vs, trivial⟩, ro11 hs, trivial⟩
    | 2, _ => exact ⟨(show f_s_pagesWithHint m (Int32.ofNat 4) = 0 by rw [p1, hint4 hA]; rfl), ⟨p2, trivial⟩, ro11 hs, trivial⟩
    | 3, _ => exact ⟨(show m 14 (Int32.ofNat 4).toNatClampNeg = 0 by rw [ix, h14]), ⟨vs, trivial⟩, ro11 hs, trivial⟩
    | 4, _ =>
      refine ⟨q1, ⟨q2, trivial⟩, ro11 hs, ?_⟩
      show (if A 11 4 = 0 then True else (¬ A 11 4 = 0) ∧ True)
      split
      · trivial
      · rename_i q; exact ⟨q, trivial⟩
    | n + 5, h => omega
  · have hs4 : s < 4 := by omega
    have n4 : ¬ (Int32.ofNat s = (4 : Int32)) := fun u => h4 (nI_inj (b := 4) (by omega) (by omega) u)
    have r12 : M 1 (((354 : Int32) + Int32.ofNat s)).toNatClampNeg = A 12 s := by rw [rh12 (m := M) hs4, hM]
    have h14 : m 14 s = A 12 s := hR.2.2.2.2.1.1 s hs4
    obtain ⟨q1, q2⟩ := pct (A 12 s) h14
    obtain ⟨u1, u2⟩ := withHint_R (x := Int32.ofNat s) hM
    simp only [if_neg n4, r12]
    match w, hw with
    | 0, _ => exact ⟨(show m 12 (Int32.ofNat s).toNatClampNeg = A 10 s by rw [ix, a1]), ⟨vs, trivial⟩, ro11 hs, ro12 hs4, ro10 hs, trivial⟩
    | 1, _ => exact ⟨(show m 13 (Int32.ofNat s).toNatClampNeg = A 11 s by rw [ix, a2]), ⟨vs, trivial⟩, ro11 hs, ro12 hs4, trivial⟩
    | 2, _ => exact ⟨(show f_s_pagesWithHint m (Int32.ofNat s) = f_r_withHint M (Int32.ofNat s) by rw [p1, u1]), ⟨p2, trivial⟩, ro11 hs, ro12 hs4, u2, trivial⟩
    | 3, _ => exact ⟨(show m 14 (Int32.ofNat s).toNatClampNeg = A 12 s by rw [ix, h14]), ⟨vs, trivial⟩, ro11 hs, ro12 hs4, trivial⟩
    | 4, _ =>
      refine ⟨q1, ⟨q2, trivial⟩, ro11 hs, ro12 hs4, ?_⟩
      show (if A 11 s = 0 then True else (¬ A 11 s = 0) ∧ True)
      split
      · trivial
      · rename_i q; exact ⟨q, trivial⟩
    | n + 5, h => omega
theorem sum12_f {m : gM} : f_s_sum12 m = sI 12 (m 0) ∧ o_s_sum12 m := by
  have hL := run_count (f := L_s_sum12_10 m (12 : Int32)) (K := K_s_sum12_10 m (12 : Int32)) (N := 12) (fuel := 400) (z := ((0 : Int32), (0 : Int32))) (fun n z => z = (sI n (m 0), Int32.ofNat n)) (fun z => z.1 = sI 12 (m 0)) (by decide) rfl (fun n z hn hz => ?_) (fun z hz => ?_)
  · unfold f_s_sum12 o_s_sum12
    simp only [g_let_def]
    exact ⟨hL.2, hL.1, trivial⟩
  · subst hz
    unfold L_s_sum12_10 K_s_sum12_10
    simp only [g_let_def, if_neg (lq12 hn), nI_ix (show n < 2147483648 by omega), e1r]
    first
      | exact ⟨⟨vp_in_nI hn (by omega), trivial⟩, trivial, rfl⟩
      | exact ⟨⟨trivial, vp_in_nI hn (by omega), trivial⟩, trivial, rfl⟩
  · subst hz
    have hle : (12 : Int32) ≤ Int32.ofNat 12 := by decide
    unfold L_s_sum12_10 K_s_sum12_10
    simp only [if_pos hle]
    refine ⟨trivial, trivial, ?_⟩
    first | trivial | rfl
theorem sum40_f {m : gM} : f_s_sum40 m = sI 40 (m 0) ∧ o_s_sum40 m := by
  have hL := run_count (f := L_s_sum40_10 m (40 : Int32)) (K := K_s_sum40_10 m (40 : Int32)) (N := 40) (fuel := 400) (z := ((0 : Int32), (0 : Int32))) (fun n z => z = (sI n (m 0), Int32.ofNat n)) (fun z => z.1 = sI 40 (m 0)) (by decide) rfl (fun n z hn hz => ?_) (fun z hz => ?_)
  · unfold f_s_sum40 o_s_sum40
    simp only [g_let_def]
    exact ⟨hL.2, hL.1, trivial⟩
  · subst hz
    unfold L_s_sum40_10 K_s_sum40_10
    simp only [g_let_def, if_neg (lq40 hn), nI_ix (show n < 2147483648 by omega), e1r]
    first
      | exact ⟨⟨vp_in_nI hn (by omega), trivial⟩, trivial, rfl⟩
      | exact ⟨⟨trivial, vp_in_nI hn (by omega), trivial⟩, trivial, rfl⟩
  · subst hz
    have hle : (40 : Int32) ≤ Int32.ofNat 40 := by decide
    unfold L_s_sum40_10 K_s_sum40_10
    simp only [if_pos hle]
    refine ⟨trivial, trivial, ?_⟩
    first | trivial | rfl
theorem openBlocks_S {m A : gM} (hR : jR m A) : f_s_openBlocks m = Int32.ofNat (sS 5 (oN A)) ∧ o_s_openBlocks m := by
  have hL := run_count (f := L_s_openBlocks_4 m) (K := K_s_openBlocks_4 m) (N := 5) (fuel := 400) (z := ((0 : Int32), (0 : Int32))) (fun n z => z = (Int32.ofNat (sS n (oN A)), Int32.ofNat n)) (fun z => z.1 = Int32.ofNat (sS 5 (oN A))) (by decide) rfl (fun n z hn hz => ?_) (fun z hz => ?_)
  · unfold f_s_openBlocks o_s_openBlocks
    simp only [g_let_def]
    exact ⟨hL.2, hL.1, trivial⟩
  · subst hz
    have a1 := (hR.2.2.2.1 n hn).1
    have vn := vp_in_nI hn (show 5 < 2 ^ 31 by omega)
    have z0 : Int32.ofNat (sS n (oN A)) = Int32.ofNat (sS n (oN A)) + Int32.ofNat 0 := (Int32.add_zero _).symm
    unfold L_s_openBlocks_4 K_s_openBlocks_4
    by_cases q : A 10 n = -1
    · simp only [g_let_def, if_neg (lq5 hn), nI_ix (show n < 2147483648 by omega), a1, if_pos q]
      refine ⟨⟨vn, trivial⟩, trivial, Prod.ext (z0.trans (sS_acc (x := 0) ?_)) (e1r _)⟩
      unfold oN; rw [if_pos q]
    · simp only [g_let_def, if_neg (lq5 hn), nI_ix (show n < 2147483648 by omega), a1, if_neg q]
      refine ⟨⟨vn, trivial⟩, trivial, Prod.ext (sS_acc (x := 1) ?_) (e1r _)⟩
      unfold oN; rw [if_neg q]
  · subst hz
    have hle : (5 : Int32) ≤ Int32.ofNat 5 := by decide
    unfold L_s_openBlocks_4 K_s_openBlocks_4
    simp only [if_pos hle]
    refine ⟨trivial, trivial, ?_⟩
    first | trivial | rfl
theorem allSlots_R {M A : gM} {x : Nat} (hM : vA (M 1) = A) (ia : jA A) (hx : x < 3) : f_r_allSlots M (Int32.ofNat x) = sI 12 (fun b => Int32.ofNat (kN A x b)) ∧ o_r_allSlots M (Int32.ofNat x) := by
  have hL := run_count (f := L_r_allSlots_4 M (Int32.ofNat x)) (K := K_r_allSlots_4 M (Int32.ofNat x)) (N := 12) (fuel := 400) (z := ((0 : Int32), (0 : Int32))) (fun n z => z = (sI n (fun b => Int32.ofNat (kN A x b)), Int32.ofNat n)) (fun z => z.1 = sI 12 (fun b => Int32.ofNat (kN A x b))) (by decide) rfl (fun n z hn hz => ?_) (fun z hz => ?_)
  · unfold f_r_allSlots o_r_allSlots
    simp only [g_let_def]
    exact ⟨hL.2, hL.1, trivial⟩
  · subst hz
    have s1 := slots_A (m := g_sel [1] M) (by rw [aR_sel1, hM]; exact ia) hn hx
    rw [aR_sel1, hM] at s1
    unfold L_r_allSlots_4 K_r_allSlots_4
    simp only [g_let_def, if_neg (lq12 hn), s1.1, e1r]
    exact ⟨⟨s1.2, trivial⟩, trivial, rfl⟩
  · subst hz
    have hle : (12 : Int32) ≤ Int32.ofNat 12 := by decide
    unfold L_r_allSlots_4 K_r_allSlots_4
    simp only [if_pos hle]
    refine ⟨trivial, trivial, ?_⟩
    first | trivial | rfl
def mxF (f : Nat → Int32) : Nat → Int32
  | 0 => f 0
  | n + 1 => if mxF f n < f (n + 1) then f (n + 1) else mxF f n
def mnF (f : Nat → Int32) : Nat → Int32
  | 0 => f 0
  | n + 1 => if f (n + 1) < mnF f n then f (n + 1) else mnF f n
theorem mxF_c {f g : Nat → Int32} : ∀ n, (∀ i, i ≤ n → f i = g i) → mxF f n = mxF g n := by
  intro n
  induction n with
  | zero => intro h; exact h 0 (by omega)
  | succ n ih => intro h; unfold mxF; rw [ih (fun i hi => h i (by omega)), h (n + 1) (by omega)]
theorem mnF_c {f g : Nat → Int32} : ∀ n, (∀ i, i ≤ n → f i = g i) → mnF f n = mnF g n := by
  intro n
  induction n with
  | zero => intro h; exact h 0 (by omega)
  | succ n ih => intro h; unfold mnF; rw [ih (fun i hi => h i (by omega)), h (n + 1) (by omega)]
theorem spread_S {m : gM} : f_s_spreadOfErasures m = mxF (m 10) 11 - mnF (m 10) 11 ∧ o_s_spreadOfErasures m := by
  have i0 : (0 : Int32).toNatClampNeg = 0 := by decide
  have hL := run_count (f := L_s_spreadOfErasures_16 m) (K := K_s_spreadOfErasures_16 m) (N := 11) (fuel := 400) (z := (m 10 0, m 10 0, (1 : Int32))) (fun n z => z = (mxF (m 10) n, mnF (m 10) n, Int32.ofNat (n + 1))) (fun z => z.1 = mxF (m 10) 11 ∧ z.2.1 = mnF (m 10) 11) (by decide) rfl (fun n z hn hz => ?_) (fun z hz => ?_)
  · unfold f_s_spreadOfErasures o_s_spreadOfErasures
    simp only [g_let_def, i0]
    rw [hL.2.1, hL.2.2]
    exact ⟨rfl, hL.1, trivial⟩
  · subst hz
    have hn1 : n + 1 < 12 := by omega
    have vn := vp_in_nI hn1 (show 12 < 2 ^ 31 by omega)
    unfold L_s_spreadOfErasures_16 K_s_spreadOfErasures_16
    simp only [g_let_def, if_neg (lq12 hn1), nI_ix (show n + 1 < 2147483648 by omega), e1r]
    exact ⟨⟨vn, vn, trivial⟩, trivial, rfl⟩
  · subst hz
    have hle : (12 : Int32) ≤ Int32.ofNat (11 + 1) := by decide
    unfold L_s_spreadOfErasures_16 K_s_spreadOfErasures_16
    simp only [if_pos hle]
    refine ⟨trivial, trivial, ?_⟩
    first | trivial | exact ⟨rfl, rfl⟩
theorem spread_R {M A : gM} (hM : vA (M 1) = A) : f_r_unlikeErasures M = mxF (A 8) 11 - mnF (A 8) 11 ∧ o_r_unlikeErasures M := by
  have i0 : M 1 (120 : Int32).toNatClampNeg = A 8 0 := by rw [← hM]; rfl
  have hL := run_count (f := L_r_unlikeErasures_18 M) (K := K_r_unlikeErasures_18 M) (N := 11) (fuel := 400) (z := (A 8 0, A 8 0, (1 : Int32))) (fun n z => z = (mnF (A 8) n, mxF (A 8) n, Int32.ofNat (n + 1))) (fun z => z.1 = mnF (A 8) 11 ∧ z.2.1 = mxF (A 8) 11) (by decide) rfl (fun n z hn hz => ?_) (fun z hz => ?_)
  · unfold f_r_unlikeErasures o_r_unlikeErasures
    simp only [g_let_def, i0]
    rw [hL.2.1, hL.2.2]
    exact ⟨rfl, hL.1, trivial⟩
  · subst hz
    have hn1 : n + 1 < 12 := by omega
    have rv := ro8 hn1
    have hmx : mxF (A 8) (n + 1) = if A 8 (n + 1) ≤ mxF (A 8) n then mxF (A 8) n else A 8 (n + 1) := by
      show (if mxF (A 8) n < A 8 (n + 1) then _ else _) = _
      by_cases q : A 8 (n + 1) ≤ mxF (A 8) n
      · rw [if_pos q, if_neg (Int32.not_lt.mpr q)]
      · rw [if_neg q, if_pos (Int32.not_le.mp q)]
    have hmn : mnF (A 8) (n + 1) = if mnF (A 8) n ≤ A 8 (n + 1) then mnF (A 8) n else A 8 (n + 1) := by
      show (if A 8 (n + 1) < mnF (A 8) n then _ else _) = _
      by_cases q : mnF (A 8) n ≤ A 8 (n + 1)
      · rw [if_pos q, if_neg (Int32.not_lt.mpr q)]
      · rw [if_neg q, if_pos (Int32.not_le.mp q)]
    rw [hmx, hmn]
    unfold L_r_unlikeErasures_18 K_r_unlikeErasures_18
    simp only [g_let_def, if_neg (lq12 hn1), rh8 hn1, hM, e1r]
    by_cases q1 : mnF (A 8) n ≤ A 8 (n + 1) <;> by_cases q2 : A 8 (n + 1) ≤ mxF (A 8) n
    · simp only [if_pos q1, if_pos q2]; exact ⟨⟨rv, rv, trivial⟩, trivial, trivial⟩
    · simp only [if_pos q1, if_neg q2]; exact ⟨⟨rv, rv, rv, trivial⟩, trivial, trivial⟩
    · simp only [if_neg q1, if_pos q2]; exact ⟨⟨rv, rv, rv, trivial⟩, trivial, trivial⟩
    · simp only [if_neg q1, if_neg q2]; exact ⟨⟨rv, rv, rv, rv, trivial⟩, trivial, trivial⟩
  · subst hz
    have hle : (12 : Int32) ≤ Int32.ofNat (11 + 1) := by decide
    unfold L_r_unlikeErasures_18 K_r_unlikeErasures_18
    simp only [if_pos hle]
    refine ⟨trivial, trivial, ?_⟩
    first | trivial | exact ⟨rfl, rfl⟩
theorem total_RS {M m A : gM} {e t w : Nat} (hM : vA (M 1) = A) (hR : jR m A) (hT : jT e t A) (he : e < 100000000) (ht : t < 800000000) (hw : w < 11) : f_s_total m (Int32.ofNat w) = f_r_counted M (Int32.ofNat w) ∧ o_s_total m (Int32.ofNat w) ∧ o_r_counted M (Int32.ofNat w) := by
  have hR0 := hR
  obtain ⟨hA, ⟨-, -, w3, w4, w5⟩, -⟩ := hT
  have hA0 := hA
  obtain ⟨ia, ib, ih, ic, id, ie, if', ig, ii, is⟩ := hA
  obtain ⟨R1, R2, R3, R4, R5, R6, R7, R8, R9⟩ := hR
  have s8 : f_s_sum12 (g_sel [8] m) = sI 12 (fun b => Int32.ofNat (cN A b)) := sum12_f.1.trans (sI_c 12 (fun b hb => (R3 b hb).2.1))
  have s9 : f_s_sum12 (g_sel [9] m) = sI 12 (fun b => Int32.ofNat (vL A b)) := sum12_f.1.trans (sI_c 12 (fun b hb => (R3 b hb).2.2.1))
  have s10 : f_s_sum12 (g_sel [10] m) = sI 12 (A 8) := sum12_f.1.trans (sI_c 12 (fun b hb => (R3 b hb).2.2.2.1))
  have s3 : f_s_sum40 (g_sel [3] m) = sI 40 (A 3) := sum40_f.1.trans (sI_c 40 (fun p hp => (R1 p hp).2.2.1))
  have o12 : ∀ x, o_s_sum12 x := fun x => sum12_f.2
  obtain ⟨ob1, ob2⟩ := openBlocks_S hR0
  have k0 := allSlots_R (x := 0) hM ia (by omega)
  have k1 := allSlots_R (x := 1) hM ia (by omega)
  have k2 := allSlots_R (x := 2) hM ia (by omega)
  have i' : ∀ x, f_r_inState (g_sel [1] M) x = Int32.ofNat (sS 12 (sN A x)) ∧ o_r_inState (g_sel [1] M) x := fun x => by
    have := inState_A (m := g_sel [1] M) (x := x)
    rw [aR_sel1, hM] at this; exact this
  have hst := jC_states ic
  unfold jF at if'
  have hfr : frN A = sS 12 (sN A 0) := rfl
  match w, hw with
  | 0, _ =>
    refine ⟨?_, ⟨o12 _, trivial⟩, k0.2, trivial⟩
    show f_s_sum12 (g_sel [9] m) = f_r_allSlots M (Int32.ofNat 0)
    rw [s9, k0.1]; exact sI_c 12 (fun b _ => by rw [kN_0])
  | 1, _ =>
    have e1 : Int32.ofNat 1 - (1 : Int32) = 0 := by decide
    refine ⟨?_, trivial, ?_⟩
    · show m 0 15 = f_r_inState (g_sel [1] M) (Int32.ofNat 1 - (1 : Int32))
      rw [e1, (i' 0).1, R8]; rfl
    · show o_r_inState (g_sel [1] M) (Int32.ofNat 1 - (1 : Int32)) ∧ True
      exact ⟨(i' _).2, trivial⟩
  | 2, _ =>
    have e1 : Int32.ofNat 2 - (1 : Int32) = 1 := by decide
    refine ⟨?_, ⟨ob2, trivial⟩, ?_⟩
    · show f_s_openBlocks m = f_r_inState (g_sel [1] M) (Int32.ofNat 2 - (1 : Int32))
      rw [e1, (i' 1).1, ob1, if']
    · show o_r_inState (g_sel [1] M) (Int32.ofNat 2 - (1 : Int32)) ∧ True
      exact ⟨(i' _).2, trivial⟩
  | 3, _ =>
    have e1 : Int32.ofNat 3 - (1 : Int32) = 2 := by decide
    refine ⟨?_, ⟨ob2, trivial⟩, ?_⟩
    · show ((12 : Int32) - (m 0 15)) - (f_s_openBlocks m) = f_r_inState (g_sel [1] M) (Int32.ofNat 3 - (1 : Int32))
      rw [e1, (i' 2).1, ob1, R8, ← if', show (12 : Int32) = Int32.ofNat (sS 12 (sN A 2) + sS 12 (sN A 1) + frN A) from by rw [show sS 12 (sN A 2) + sS 12 (sN A 1) + frN A = 12 by omega]; rfl, subNN, subNN]
    · show o_r_inState (g_sel [1] M) (Int32.ofNat 3 - (1 : Int32)) ∧ True
      exact ⟨(i' _).2, trivial⟩
  | 4, _ =>
    have e1 : Int32.ofNat 4 - (3 : Int32) = Int32.ofNat 1 := by decide
    refine ⟨?_, ⟨o12 _, o12 _, trivial⟩, ?_⟩
    · show f_s_sum12 (g_sel [8] m) - f_s_sum12 (g_sel [9] m) = f_r_allSlots M (Int32.ofNat 4 - (3 : Int32))
      rw [e1, k1.1, s8, s9, sI_nat, sI_nat, sI_nat]
      have : sS 12 (cN A) = sS 12 (kN A 1) + sS 12 (vL A) := by
        rw [← sS_add]; exact sS_c 12 (fun b _ => (kN_1 A b).symm)
      show Int32.ofNat (sS 12 (cN A)) - Int32.ofNat (sS 12 (vL A)) = Int32.ofNat (sS 12 (kN A 1))
      rw [this, subNN]
    · show o_r_allSlots M (Int32.ofNat 4 - (3 : Int32)) ∧ True
      rw [e1]; exact ⟨k1.2, trivial⟩
  | 5, _ =>
    have e1 : Int32.ofNat 5 - (3 : Int32) = Int32.ofNat 2 := by decide
    refine ⟨?_, ⟨o12 _, trivial⟩, ?_⟩
    · show (96 : Int32) - f_s_sum12 (g_sel [8] m) = f_r_allSlots M (Int32.ofNat 5 - (3 : Int32))
      rw [e1, k2.1, s8, sI_nat, sI_nat]
      have : 96 = sS 12 (kN A 2) + sS 12 (cN A) := by
        rw [← sS_add, sS_c (g := fun _ => 8) 12 (fun b _ => kN_2 A b)]; rfl
      show (96 : Int32) - Int32.ofNat (sS 12 (cN A)) = Int32.ofNat (sS 12 (kN A 2))
      rw [show (96 : Int32) = Int32.ofNat (sS 12 (kN A 2) + sS 12 (cN A)) from by rw [← this]; rfl, subNN]
    · show o_r_allSlots M (Int32.ofNat 5 - (3 : Int32)) ∧ True
      rw [e1]; exact ⟨k2.2, trivial⟩
  | 6, _ =>
    refine ⟨?_, ⟨⟨sum40_f.2, trivial⟩, trivial⟩, trivial⟩
    show f_s_sum40 (g_sel [3] m) = M 1 (360 : Int32).toNatClampNeg
    rw [s3, rh13_2 (m := M), hM, w5]
  | 7, _ =>
    refine ⟨?_, ⟨trivial, trivial⟩, trivial⟩
    show m 13 (4 : Int32).toNatClampNeg = M 1 (361 : Int32).toNatClampNeg
    rw [rh13_3 (m := M), hM, w3]; exact (R4 4 (by omega)).2
  | 8, _ =>
    refine ⟨?_, ⟨⟨o12 _, trivial⟩, trivial⟩, trivial⟩
    show f_s_sum12 (g_sel [10] m) = M 1 (362 : Int32).toNatClampNeg
    rw [s10, rh13_4 (m := M), hM, w4]
  | 9, _ =>
    refine ⟨?_, ⟨spread_S.2, trivial⟩, (spread_R hM).2, trivial⟩
    show f_s_spreadOfErasures m = f_r_unlikeErasures M
    rw [spread_S.1, (spread_R hM).1, mxF_c 11 (fun i hi => (R3 i (by omega)).2.2.2.1), mnF_c 11 (fun i hi => (R3 i (by omega)).2.2.2.1)]
  | 10, _ =>
    have v := victim_A (m := g_sel [1] M) (by rw [aR_sel1, hM]; exact hA0) he ht
    have u := victim_S hR0 hA0 he ht
    rw [aR_sel1, hM] at v
    exact ⟨u.1.trans v.1.symm, ⟨u.2, trivial⟩, v.2, trivial⟩
  | n + 11, h => omega
