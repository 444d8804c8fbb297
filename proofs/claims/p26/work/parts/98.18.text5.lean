/-! the reference takes a part -/
noncomputable def hTl (Z : gM) : Int32 × gM := (if (f_r_takes Z (104 : Int32)).1 = 0 then ((1 : Int32), (f_r_takes Z (104 : Int32)).2) else (if (f_r_isAt (f_r_takes Z (104 : Int32)).2 (48 : Int32) (51 : Int32)) = 0 then ((f_r_stops (f_r_takes Z (104 : Int32)).2).1, (f_r_stops (f_r_takes Z (104 : Int32)).2).2) else ((1 : Int32), g_set (g_set (f_r_takes Z (104 : Int32)).2 5 (upd ((f_r_takes Z (104 : Int32)).2 5) (((3 : Int32) * ((f_r_takes Z (104 : Int32)).2 0 10)) + (2 : Int32)).toNatClampNeg (((f_r_takes Z (104 : Int32)).2 4 ((f_r_takes Z (104 : Int32)).2 0 7).toNatClampNeg) - (48 : Int32)))) 0 (upd ((g_set (f_r_takes Z (104 : Int32)).2 5 (upd ((f_r_takes Z (104 : Int32)).2 5) (((3 : Int32) * ((f_r_takes Z (104 : Int32)).2 0 10)) + (2 : Int32)).toNatClampNeg (((f_r_takes Z (104 : Int32)).2 4 ((f_r_takes Z (104 : Int32)).2 0 7).toNatClampNeg) - (48 : Int32)))) 0) 7 (((g_set (f_r_takes Z (104 : Int32)).2 5 (upd ((f_r_takes Z (104 : Int32)).2 5) (((3 : Int32) * ((f_r_takes Z (104 : Int32)).2 0 10)) + (2 : Int32)).toNatClampNeg (((f_r_takes Z (104 : Int32)).2 4 ((f_r_takes Z (104 : Int32)).2 0 7).toNatClampNeg) - (48 : Int32)))) 0 7) + (1 : Int32))))))
def oTl (Z : gM) : Prop := (o_r_takes Z (104 : Int32)) ∧ (if (f_r_takes Z (104 : Int32)).1 = 0 then True else (o_r_isAt (f_r_takes Z (104 : Int32)).2 (48 : Int32) (51 : Int32)) ∧ ((if (f_r_isAt (f_r_takes Z (104 : Int32)).2 (48 : Int32) (51 : Int32)) = 0 then (o_r_stops (f_r_takes Z (104 : Int32)).2) ∧ (((f_r_stops (f_r_takes Z (104 : Int32)).2).1 = 0 ∨ (f_r_stops (f_r_takes Z (104 : Int32)).2).1 = 1) ∧ True) else (vp_in ((f_r_takes Z (104 : Int32)).2 0 7) 60) ∧ ((vp_in (((3 : Int32) * ((f_r_takes Z (104 : Int32)).2 0 10)) + (2 : Int32)) 96) ∧ True))))
theorem dst_4 {f l h c : Nat} (hc : ¬ (48 ≤ c ∧ c ≤ 51)) : dst 4 f l h c = none := by
  by_cases w : 48 ≤ c ∧ c ≤ 57
  · unfold dst; rw [if_pos w, if_neg (by omega), if_neg (by omega), if_neg (by omega), if_neg (by omega), if_pos rfl, if_neg (by omega)]
  · exact dst_nd (Or.inr (Or.inl rfl)) w
theorem dst_4d {f l h c : Nat} (hc : 48 ≤ c ∧ c ≤ 51) : dst 4 f l h c = some (5, f, l, c - 48) := by
  unfold dst; rw [if_pos (show 48 ≤ c ∧ c ≤ 57 by omega), if_neg (by omega), if_neg (by omega), if_neg (by omega), if_neg (by omega), if_pos rfl, if_pos (by omega)]
theorem dst_5 {f l h c : Nat} (hc : c ≠ 59) : dst 5 f l h c = none := by
  unfold dst
  by_cases w : 48 ≤ c ∧ c ≤ 57
  · rw [if_pos w, if_neg (by omega), if_neg (by omega), if_neg (by omega), if_neg (by omega), if_neg (by omega)]
  · rw [if_neg w, if_neg (show ¬ (5 = 1 ∧ f < 39) by omega), if_neg (show ¬ (5 = 1 ∨ 5 = 3 ∧ f < l) by omega), if_neg hc]
    split
    · rfl
    · split <;> rfl
theorem hTl_R {L a t b f l : Nat} {tx : Nat → Nat} {Z : gM} (h : rP L tx a t Z) (ht : 3 * t + 2 < 96) (hb : b = 1 ∨ (b = 3 ∧ f < l))
    (hd : a < L → (48 ≤ tx a ∧ tx a ≤ 57) → dst b f l 0 (tx a) = none) (h45 : a < L → tx a = 45 → dst b f l 0 45 = none) (h52 : Z 5 (3 * t + 2) = 0) :
    oTl Z ∧ ∃ n b' h', a + n ≤ L ∧ (∀ i, a ≤ i → i < a + n → tx i ≠ 59) ∧ drn tx (b, f, l, 0) a n = some (b', f, l, h') ∧ rP L tx (a + n) t (hTl Z).2 ∧ fr5 Z (hTl Z).2 ∧ (∀ j, j ≠ 3 * t + 2 → (hTl Z).2 5 j = Z 5 j) ∧
      (((hTl Z).1 = 1 ∧ pW b' f l ∧ (hTl Z).2 5 (3 * t + 2) = Int32.ofNat h' ∧ (a + n < L → tx (a + n) ≠ 59 → dst b' f l h' (tx (a + n)) = none)) ∨ ((hTl Z).1 = 0 ∧ ¬ pW b' f l ∧ ((a + n < L ∧ (hTl Z).2 0 8 = 1 ∧ dst b' f l h' (tx (a + n)) = none) ∨ (a + n = L ∧ (hTl Z).2 0 8 = 0)))) := by
  have n10 : ¬ ((1 : Int32) = 0) := by decide
  obtain ⟨o1, hcase⟩ := takes_R (sg := 104) h (by omega)
  have e104 : Int32.ofNat 104 = (104 : Int32) := rfl
  rw [e104] at o1 hcase
  unfold hTl oTl
  generalize hT : f_r_takes Z (104 : Int32) = T at *
  rcases hcase with ⟨w1, w2, w3, w4, w5, w6⟩ | ⟨w1, w3, w4, w5, w6⟩
  · have w3' : ¬ (T.1 = 0) := by rw [w3]; exact n10
    obtain ⟨i1, i2⟩ := isAt_R (lo := 48) (hi := 51) w4 (by omega) (by omega)
    have e48 : Int32.ofNat 48 = (48 : Int32) := rfl
    have e51 : Int32.ofNat 51 = (51 : Int32) := rfl
    rw [e48, e51] at i1 i2
    have hd1 : drn tx (b, f, l, 0) a 1 = some (4, f, l, 0) := by
      show (dst b f l 0 (tx a)).bind (fun s' => drn tx s' (a + 1) 0) = _
      rw [w2]; unfold dst
      rw [if_neg (by omega), if_neg (by omega), if_pos rfl, if_pos hb]; rfl
    by_cases q : a + 1 < L ∧ 48 ≤ tx (a + 1) ∧ tx (a + 1) ≤ 51
    · have i3 : ¬ (f_r_isAt T.2 (48 : Int32) (51 : Int32) = 0) := by rw [i1, if_pos q]; exact n10
      have p7 := w4.2.2.1
      have z4 : T.2 4 (T.2 0 7).toNatClampNeg - (48 : Int32) = Int32.ofNat (tx (a + 1) - 48) := by rw [p7, nI_ix (by have := w4.2.1; omega), (w4.2.2.2.2.2 _ q.1).1, nI_sub48 _ q.2.1]
      have hL60 := w4.2.1
      have v7 : vp_in (T.2 0 7) 60 := by rw [p7]; exact vp_in_nI (by omega) (by omega)
      obtain ⟨j1, j2⟩ := i3t (k := 2) w4.2.2.2.2.1 (by omega)
      have e2 : Int32.ofNat 2 = (2 : Int32) := rfl
      rw [e2] at j1 j2
      obtain ⟨u1, u2, u3, u4⟩ := told_R (k := 3 * t + 2) (x := Int32.ofNat (tx (a + 1) - 48)) w4
      obtain ⟨s1, s2⟩ := step_R u1 q.1
      simp only [if_neg w3', if_neg i3, z4, j1]
      refine ⟨⟨o1, i2, v7, j2 (by omega), trivial⟩, 2, 5, tx (a + 1) - 48, by omega, fun i h1 h2 => ?_, drn_snoc hd1 (dst_4d q.2), s1, fr5_t w5 (fr5_t u2 s2), fun j hj => ?_, Or.inl ⟨trivial, Or.inr (Or.inl rfl), ?_, fun _ q2 => dst_5 q2⟩⟩
      · by_cases z : i = a
        · subst z; omega
        · rw [show i = a + 1 by omega]; omega
      · show (g_set T.2 5 (upd (T.2 5) (3 * t + 2) (Int32.ofNat (tx (a + 1) - 48)))) 5 j = Z 5 j
        rw [u3 j hj, w6]
      · exact u4
    · have i3 : f_r_isAt T.2 (48 : Int32) (51 : Int32) = 0 := by rw [i1, if_neg q]
      obtain ⟨s1, s2, s3, s4, s5, s6⟩ := stops_R w4
      simp only [if_neg w3', if_pos i3]
      refine ⟨⟨o1, i2, s6, Or.inl s1, trivial⟩, 1, 4, 0, by omega, fun i h1 h2 => by rw [show i = a by omega]; omega, hd1, s2, fr5_t w5 s3, fun j hj => by rw [s4, w6], Or.inr ⟨s1, by unfold pW; omega, ?_⟩⟩
      rcases s5 with ⟨q1, q2⟩ | ⟨q1, q2⟩
      · exact Or.inl ⟨q1, q2, dst_4 (fun z => q ⟨q1, z⟩)⟩
      · exact Or.inr ⟨q1, q2⟩
  · simp only [if_pos w3]
    refine ⟨⟨o1, trivial⟩, 0, b, 0, w4.2.2.2.1, fun i h1 h2 => by omega, rfl, w4, w5, fun j hj => by rw [w6], Or.inl ⟨trivial, by unfold pW; omega, by rw [w6, h52]; rfl, fun q1 q2 => ?_⟩⟩
    have q1' : a < L := q1
    have q2' : tx a ≠ 59 := q2
    show dst b f l 0 (tx a) = none
    by_cases z1 : 48 ≤ tx a ∧ tx a ≤ 57
    · exact hd q1' z1
    · by_cases z2 : tx a = 45
      · rw [z2]; exact h45 q1' z2
      · have z3 : tx a ≠ 104 := fun z => w1 ⟨q1', z⟩
        unfold dst; rw [if_neg z1, if_neg z2, if_neg z3, if_neg q2']
noncomputable def pA (m : gM) : Int32 × gM := f_r_takesPage m (0 : Int32) (-1 : Int32)
noncomputable def pZ9 (m : gM) : gM := g_set (g_set (pA m).2 5 (upd ((pA m).2 5) (((3 : Int32) * ((pA m).2 0 10)) + (1 : Int32)).toNatClampNeg ((pA m).2 5 ((3 : Int32) * ((pA m).2 0 10)).toNatClampNeg))) 5 (upd ((g_set (pA m).2 5 (upd ((pA m).2 5) (((3 : Int32) * ((pA m).2 0 10)) + (1 : Int32)).toNatClampNeg ((pA m).2 5 ((3 : Int32) * ((pA m).2 0 10)).toNatClampNeg))) 5) (((3 : Int32) * ((g_set (pA m).2 5 (upd ((pA m).2 5) (((3 : Int32) * ((pA m).2 0 10)) + (1 : Int32)).toNatClampNeg ((pA m).2 5 ((3 : Int32) * ((pA m).2 0 10)).toNatClampNeg))) 0 10)) + (2 : Int32)).toNatClampNeg (0 : Int32))
noncomputable def pV (m : gM) : Int32 := (pA m).2 5 ((3 : Int32) * ((pA m).2 0 10)).toNatClampNeg
theorem takesPart_f (m : gM) : f_r_takesPart m = (if (pA m).1 = 0 then ((0 : Int32), (pA m).2) else if (39 : Int32) ≤ pV m then hTl (pZ9 m) else if (f_r_takes (pZ9 m) (45 : Int32)).1 = 0 then hTl (f_r_takes (pZ9 m) (45 : Int32)).2 else if (f_r_takesPage (f_r_takes (pZ9 m) (45 : Int32)).2 (1 : Int32) (pV m)).1 = 0 then ((0 : Int32), (f_r_takesPage (f_r_takes (pZ9 m) (45 : Int32)).2 (1 : Int32) (pV m)).2) else hTl (f_r_takesPage (f_r_takes (pZ9 m) (45 : Int32)).2 (1 : Int32) (pV m)).2) := by
  unfold f_r_takesPart
  simp only [g_let_def]
  rfl
theorem takesPart_o (m : gM) (h1 : o_r_takesPage m (0 : Int32) (-1 : Int32)) (h2 : ¬ ((pA m).1 = 0) → vp_in ((3 : Int32) * ((pA m).2 0 10)) 96 ∧ vp_in (((3 : Int32) * ((pA m).2 0 10)) + (1 : Int32)) 96 ∧ vp_in (((3 : Int32) * ((pA m).2 0 10)) + (2 : Int32)) 96 ∧ (if (39 : Int32) ≤ pV m then oTl (pZ9 m) else (o_r_takes (pZ9 m) (45 : Int32)) ∧ (if (f_r_takes (pZ9 m) (45 : Int32)).1 = 0 then oTl (f_r_takes (pZ9 m) (45 : Int32)).2 else (o_r_takesPage (f_r_takes (pZ9 m) (45 : Int32)).2 (1 : Int32) (pV m)) ∧ (if (f_r_takesPage (f_r_takes (pZ9 m) (45 : Int32)).2 (1 : Int32) (pV m)).1 = 0 then True else oTl (f_r_takesPage (f_r_takes (pZ9 m) (45 : Int32)).2 (1 : Int32) (pV m)).2)))) : o_r_takesPart m := by
  unfold o_r_takesPart
  simp only [g_let_def]
  refine ⟨h1, ?_⟩
  by_cases w : (f_r_takesPage m (0 : Int32) (-1 : Int32)).1 = 0
  · rw [if_pos w]; trivial
  · rw [if_neg w]
    exact h2 w
/-- a part: from a state with nothing read, what comes behind n characters -/
theorem takesPart_R {L a t f0 l0 h0 : Nat} {tx : Nat → Nat} {m : gM} (h : rP L tx a t m) (ht : 3 * t + 2 < 96) :
    o_r_takesPart m ∧ ∃ n b f l h', a + n ≤ L ∧ (∀ i, a ≤ i → i < a + n → tx i ≠ 59) ∧ drn tx (0, f0, l0, h0) a n = some (b, f, l, h') ∧ rP L tx (a + n) t (f_r_takesPart m).2 ∧ fr5 m (f_r_takesPart m).2 ∧ (∀ j, j < 3 * t → (f_r_takesPart m).2 5 j = m 5 j) ∧
      (((f_r_takesPart m).1 = 1 ∧ 1 ≤ n ∧ pW b f l ∧ (f_r_takesPart m).2 5 (3 * t) = Int32.ofNat f ∧ (f_r_takesPart m).2 5 (3 * t + 1) = Int32.ofNat l ∧ (f_r_takesPart m).2 5 (3 * t + 2) = Int32.ofNat h' ∧ (a + n < L → tx (a + n) ≠ 59 → dst b f l h' (tx (a + n)) = none)) ∨ ((f_r_takesPart m).1 = 0 ∧ ¬ pW b f l ∧ ((a + n < L ∧ (f_r_takesPart m).2 0 8 = 1 ∧ dst b f l h' (tx (a + n)) = none) ∨ (a + n = L ∧ (f_r_takesPart m).2 0 8 = 0)))) := by
  have n10 : ¬ ((1 : Int32) = 0) := by decide
  obtain ⟨k1, n, k2, k3, k4, k5, k6, k7⟩ := takesPage0_R (f0 := f0) (l0 := l0) (h0 := h0) h ht
  rw [takesPart_f]
  have k4' : rP L tx (a + n) t (pA m).2 := k4
  have k5' : fr5 m (pA m).2 := k5
  have k6' : ∀ j, j ≠ 3 * t → (pA m).2 5 j = m 5 j := k6
  have no59 : ∀ i, a ≤ i → i < a + n → tx i ≠ 59 := fun i h1 h2 => by have := k3 i h1 h2; omega
  rcases k7 with ⟨v, v40, n1, x1, x2, x3, x4⟩ | ⟨n0, x1, x2⟩
  · have x1' : ¬ ((pA m).1 = 0) := by show ¬ ((f_r_takesPage m (0 : Int32) (-1 : Int32)).1 = 0); rw [x1]; exact n10
    obtain ⟨j1, j2⟩ := i3t (k := 1) k4'.2.2.2.2.1 (show 3 * t + 1 < 1000 by omega)
    obtain ⟨j3, j4⟩ := i3t (k := 2) k4'.2.2.2.2.1 (show 3 * t + 2 < 1000 by omega)
    obtain ⟨j5, j6⟩ := i3t (k := 0) k4'.2.2.2.2.1 (show 3 * t + 0 < 1000 by omega)
    have e1 : Int32.ofNat 1 = (1 : Int32) := rfl
    have e2 : Int32.ofNat 2 = (2 : Int32) := rfl
    have ez : (3 : Int32) * ((pA m).2 0 10) + Int32.ofNat 0 = (3 : Int32) * ((pA m).2 0 10) := Int32.add_zero _
    rw [e1] at j1 j2
    rw [e2] at j3 j4
    rw [ez] at j5 j6
    have hv : pV m = Int32.ofNat v := by unfold pV; rw [j5]; exact x2
    have hz9 : pZ9 m = g_set (g_set (pA m).2 5 (upd ((pA m).2 5) (3 * t + 1) (Int32.ofNat v))) 5 (upd ((g_set (pA m).2 5 (upd ((pA m).2 5) (3 * t + 1) (Int32.ofNat v))) 5) (3 * t + 2) (0 : Int32)) := by
      have hq : ∀ X, (g_set (pA m).2 5 X) 0 10 = (pA m).2 0 10 := fun X => rfl
      unfold pZ9
      rw [hq, j1, j3, j5, show (pA m).2 5 (3 * t + 0) = Int32.ofNat v from x2]
    obtain ⟨u1, u2, u3, u4⟩ := told_R (k := 3 * t + 1) (x := Int32.ofNat v) k4'
    obtain ⟨y1, y2, y3, y4⟩ := told_R (k := 3 * t + 2) (x := (0 : Int32)) u1
    rw [← hz9] at y1 y2 y3 y4
    have f9 : fr5 m (pZ9 m) := fr5_t k5' (fr5_t u2 y2)
    have z50 : pZ9 m 5 (3 * t) = Int32.ofNat v := by rw [y3 _ (by omega), u3 _ (by omega)]; exact x2
    have z51 : pZ9 m 5 (3 * t + 1) = Int32.ofNat v := by rw [y3 _ (by omega), u4]
    have zlo : ∀ j, j < 3 * t → pZ9 m 5 j = m 5 j := fun j hj => by rw [y3 _ (by omega), u3 _ (by omega), k6' _ (by omega)]
    have oo : (39 : Int32) ≤ pV m ∨ ¬ (39 : Int32) ≤ pV m → True := fun _ => trivial
    have hv39 : ((39 : Int32) ≤ pV m) ↔ 39 ≤ v := by rw [hv]; exact leI (a := 39) (by omega) (by omega)
    rw [if_neg x1']
    by_cases w39 : 39 ≤ v
    · -- no sign can follow
      rw [if_pos (hv39.mpr w39)]
      obtain ⟨t1, n', b', h', t2, t3, t4, t5, t6, t7, t8⟩ := hTl_R (b := 1) (f := v) (l := v) y1 ht (Or.inl rfl) x4 (fun _ _ => by unfold dst; rw [if_neg (by omega), if_pos rfl, if_neg (by omega)]) y4
      refine ⟨takesPart_o m k1 (fun _ => ⟨j6 (by omega), j2 (by omega), j4 (by omega), by rw [if_pos (hv39.mpr w39)]; exact t1⟩), n + n', b', v, v, h', by omega, fun i h1 h2 => ?_, ?_, ?_, fr5_t f9 t6, fun j hj => by rw [t7 _ (by omega)]; exact zlo j hj, ?_⟩
      · by_cases q : i < a + n
        · exact no59 i h1 q
        · exact t3 i (by omega) (by omega)
      · rw [drn_add, x3]; exact t4
      · rw [← Nat.add_assoc]; exact t5
      · rw [← Nat.add_assoc]
        rcases t8 with ⟨q1, q2, q3, q4⟩ | q
        · exact Or.inl ⟨q1, by omega, q2, by rw [t7 _ (by omega)]; exact z50, by rw [t7 _ (by omega)]; exact z51, q3, q4⟩
        · exact Or.inr q
    · rw [if_neg (fun z => w39 (hv39.mp z))]
      obtain ⟨s1, scase⟩ := takes_R (sg := 45) y1 (by omega)
      have e45 : Int32.ofNat 45 = (45 : Int32) := rfl
      rw [e45] at s1 scase
      rcases scase with ⟨g1, g2, g3, g4, g5, g6⟩ | ⟨g1, g3, g4, g5, g6⟩
      · -- a sign, then a page that is greater
        have g3' : ¬ ((f_r_takes (pZ9 m) (45 : Int32)).1 = 0) := by rw [g3]; exact n10
        rw [if_neg g3']
        have hd1 : drn tx (0, f0, l0, h0) a (n + 1) = some (2, v, v, 0) := drn_snoc x3 (by rw [g2]; unfold dst; rw [if_neg (by omega), if_pos rfl, if_pos (by omega)])
        obtain ⟨r1, n2, r2, r3, r4, r5, r6, r7⟩ := takesPage1_R (f := v) g4 ht (by omega)
        rw [← hv] at r1 r4 r5 r6 r7
        have flo : ∀ j, j < 3 * t → (f_r_takesPage (f_r_takes (pZ9 m) (45 : Int32)).2 (1 : Int32) (pV m)).2 5 j = m 5 j := fun j hj => by rw [r6 _ (by omega), g6]; exact zlo j hj
        have no59' : ∀ i, a ≤ i → i < a + n + 1 + n2 → tx i ≠ 59 := fun i h1 h2 => by
          by_cases q : i < a + n
          · exact no59 i h1 q
          · by_cases q2 : i = a + n
            · rw [q2, g2]; omega
            · have := r3 i (by omega) (by omega); omega
        rcases r7 with ⟨l, fl, l40, q1, q2, q3, q4⟩ | ⟨b, l, hbl, q3, q1, q4⟩
        · have q1' : ¬ ((f_r_takesPage (f_r_takes (pZ9 m) (45 : Int32)).2 (1 : Int32) (pV m)).1 = 0) := by rw [q1]; exact n10
          rw [if_neg q1']
          have z52 : (f_r_takesPage (f_r_takes (pZ9 m) (45 : Int32)).2 (1 : Int32) (pV m)).2 5 (3 * t + 2) = 0 := by rw [r6 _ (by omega), g6]; exact y4
          obtain ⟨t1, n', b', h', t2, t3, t4, t5, t6, t7, t8⟩ := hTl_R (b := 3) (f := v) (l := l) r4 ht (Or.inr ⟨rfl, fl⟩) q4 (fun _ _ => by unfold dst; rw [if_neg (by omega), if_pos rfl, if_neg (by omega)]) z52
          refine ⟨takesPart_o m k1 (fun _ => ⟨j6 (by omega), j2 (by omega), j4 (by omega), by rw [if_neg (fun z => w39 (hv39.mp z)), if_neg g3', if_neg q1']; exact ⟨s1, r1, t1⟩⟩), n + 1 + n2 + n', b', v, l, h', by omega, fun i h1 h2 => ?_, ?_, ?_, fr5_t f9 (fr5_t g5 (fr5_t r5 t6)), fun j hj => by rw [t7 _ (by omega)]; exact flo j hj, ?_⟩
          · by_cases q : i < a + n + 1 + n2
            · exact no59' i h1 q
            · exact t3 i (by omega) (by omega)
          · rw [drn_add, drn_add, hd1]
            show (drn tx (2, v, v, 0) (a + (n + 1)) n2).bind _ = _
            rw [show a + (n + 1) = a + n + 1 by omega, q3]
            rw [show a + (n + 1 + n2) = a + n + 1 + n2 by omega]; exact t4
          · rw [show a + (n + 1 + n2 + n') = a + n + 1 + n2 + n' by omega]; exact t5
          · rw [show a + (n + 1 + n2 + n') = a + n + 1 + n2 + n' by omega]
            rcases t8 with ⟨p1, p2, p3, p4⟩ | p
            · exact Or.inl ⟨p1, by omega, p2, by rw [t7 _ (by omega), r6 _ (by omega), g6]; exact z50, by rw [t7 _ (by omega)]; exact q2, p3, p4⟩
            · exact Or.inr p
        · rw [if_pos q1]
          refine ⟨takesPart_o m k1 (fun _ => ⟨j6 (by omega), j2 (by omega), j4 (by omega), by rw [if_neg (fun z => w39 (hv39.mp z)), if_neg g3', if_pos q1]; exact ⟨s1, r1, trivial⟩⟩), n + 1 + n2, b, v, l, 0, by omega, fun i h1 h2 => no59' i h1 (by omega), ?_, ?_, fr5_t f9 (fr5_t g5 r5), flo, Or.inr ⟨rfl, by unfold pW; omega, ?_⟩⟩
          · rw [drn_add, hd1, show a + (n + 1) = a + n + 1 by omega]; exact q3
          · rw [show a + (n + 1 + n2) = a + n + 1 + n2 by omega]; exact r4
          · rw [show a + (n + 1 + n2) = a + n + 1 + n2 by omega]; exact q4
      · rw [if_pos g3]
        obtain ⟨t1, n', b', h', t2, t3, t4, t5, t6, t7, t8⟩ := hTl_R (b := 1) (f := v) (l := v) g4 ht (Or.inl rfl) x4 (fun q1 q2 => absurd ⟨q1, q2⟩ g1) (by rw [g6]; exact y4)
        refine ⟨takesPart_o m k1 (fun _ => ⟨j6 (by omega), j2 (by omega), j4 (by omega), by rw [if_neg (fun z => w39 (hv39.mp z)), if_pos g3]; exact ⟨s1, t1⟩⟩), n + n', b', v, v, h', by omega, fun i h1 h2 => ?_, ?_, ?_, fr5_t f9 (fr5_t g5 t6), fun j hj => by rw [t7 _ (by omega), g6]; exact zlo j hj, ?_⟩
        · by_cases q : i < a + n
          · exact no59 i h1 q
          · exact t3 i (by omega) (by omega)
        · rw [drn_add, x3]; exact t4
        · rw [← Nat.add_assoc]; exact t5
        · rw [← Nat.add_assoc]
          rcases t8 with ⟨q1, q2, q3, q4⟩ | q
          · exact Or.inl ⟨q1, by omega, q2, by rw [t7 _ (by omega), g6]; exact z50, by rw [t7 _ (by omega), g6]; exact z51, q3, q4⟩
          · exact Or.inr q
  · subst n0
    have x1' : (pA m).1 = 0 := x1
    rw [if_pos x1']
    refine ⟨takesPart_o m k1 (fun z => absurd x1' z), 0, 0, f0, l0, h0, k2, fun i h1 h2 => by omega, rfl, k4', k5', fun j hj => k6' j (by omega), Or.inr ⟨rfl, by unfold pW; omega, ?_⟩⟩
    rcases x2 with ⟨q1, q2, q3⟩ | ⟨q1, q2⟩
    · exact Or.inl ⟨q1, q2, dst_0n q3⟩
    · exact Or.inr ⟨q1, q2⟩
