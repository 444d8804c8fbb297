/-! the reference takes a page -/
theorem nI_sub48 (c : Nat) (h : 48 ≤ c) : Int32.ofNat c - (48 : Int32) = Int32.ofNat (c - 48) := by
  have := subNN (c - 48) 48
  rw [show c - 48 + 48 = c by omega] at this
  exact this
theorem z_add (x : Int32) : (0 : Int32) + x = x := Int32.zero_add x
theorem t10 (v c : Nat) (h : 48 ≤ c) : (10 : Int32) * Int32.ofNat v + Int32.ofNat c - (48 : Int32) = Int32.ofNat (10 * v + (c - 48)) := by
  rw [show (10 : Int32) = Int32.ofNat 10 from rfl, nI_times, nI_plus2, nI_sub48 _ (by omega), show 10 * v + c - 48 = 10 * v + (c - 48) by omega]
theorem nle10 : ¬ ((10 : Int32) ≤ (-1 : Int32)) := by decide
theorem dst_nd {b f l h c : Nat} (hb : b = 2 ∨ b = 4 ∨ (b = 3 ∧ ¬ f < l)) (hc : ¬ (48 ≤ c ∧ c ≤ 57)) : dst b f l h c = none := by
  unfold dst; rw [if_neg hc, if_neg (show ¬ (b = 1 ∧ f < 39) by omega), if_neg (show ¬ (b = 1 ∨ b = 3 ∧ f < l) by omega), if_neg (show ¬ (b = 1 ∨ b = 5 ∨ b = 3 ∧ f < l) by omega)]
  split
  · rfl
  · split
    · rfl
    · split <;> rfl
theorem page0_loop {L a t : Nat} {tx : Nat → Nat} {m : gM} {f0 l0 h0 : Nat} {x1 : Int32} (h : rP L tx a t m) :
    rOk (L_r_takesPage_2 x1 (-1 : Int32)) (K_r_takesPage_2 x1 (-1 : Int32)) 400 ((-1 : Int32), m) ∧ ∃ n v, a + n ≤ L ∧ (∀ i, a ≤ i → i < a + n → 48 ≤ tx i ∧ tx i ≤ 57) ∧ (v = none → n = 0) ∧ (∀ u, v = some u → u < 40 ∧ 1 ≤ n) ∧ (run (L_r_takesPage_2 x1 (-1 : Int32)) 400 ((-1 : Int32), m)).1 = vI v ∧ rP L tx (a + n) t (run (L_r_takesPage_2 x1 (-1 : Int32)) 400 ((-1 : Int32), m)).2 ∧ fr5 m (run (L_r_takesPage_2 x1 (-1 : Int32)) 400 ((-1 : Int32), m)).2 ∧ (run (L_r_takesPage_2 x1 (-1 : Int32)) 400 ((-1 : Int32), m)).2 5 = m 5 ∧ drn tx (0, f0, l0, h0) a n = some (sg0 v (0, f0, l0, h0)) ∧ (a + n < L → (48 ≤ tx (a + n) ∧ tx (a + n) ≤ 57) → dst (sg0 v (0, f0, l0, h0)).1 (sg0 v (0, f0, l0, h0)).2.1 (sg0 v (0, f0, l0, h0)).2.2.1 (sg0 v (0, f0, l0, h0)).2.2.2 (tx (a + n)) = none) := by
  refine run_wf (K := K_r_takesPage_2 x1 (-1 : Int32)) (fuel := 400) (fun (z : Int32 × gM) => ∃ n v, a + n ≤ L ∧ (∀ i, a ≤ i → i < a + n → 48 ≤ tx i ∧ tx i ≤ 57) ∧ (v = none → n = 0) ∧ (∀ u, v = some u → u < 40 ∧ 1 ≤ n) ∧ z.1 = vI v ∧ rP L tx (a + n) t z.2 ∧ fr5 m z.2 ∧ z.2 5 = m 5 ∧ drn tx (0, f0, l0, h0) a n = some (sg0 v (0, f0, l0, h0))) (fun (z : Int32 × gM) => L - (z.2 0 7).toNatClampNeg) (fun (z : Int32 × gM) => ∃ n v, a + n ≤ L ∧ (∀ i, a ≤ i → i < a + n → 48 ≤ tx i ∧ tx i ≤ 57) ∧ (v = none → n = 0) ∧ (∀ u, v = some u → u < 40 ∧ 1 ≤ n) ∧ z.1 = vI v ∧ rP L tx (a + n) t z.2 ∧ fr5 m z.2 ∧ z.2 5 = m 5 ∧ drn tx (0, f0, l0, h0) a n = some (sg0 v (0, f0, l0, h0)) ∧ (a + n < L → (48 ≤ tx (a + n) ∧ tx (a + n) ≤ 57) → dst (sg0 v (0, f0, l0, h0)).1 (sg0 v (0, f0, l0, h0)).2.1 (sg0 v (0, f0, l0, h0)).2.2.1 (sg0 v (0, f0, l0, h0)).2.2.2 (tx (a + n)) = none)) (z := ((-1 : Int32), m)) ⟨0, none, by have := h.2.2.2.1; omega, fun i h1 h2 => by omega, fun _ => rfl, fun u w => (by cases w), rfl, h, fr5_r m, rfl, rfl⟩ (by show L - (m 0 7).toNatClampNeg < 400; have := h.2.1; omega) (fun z hI => ?_)
  obtain ⟨z1, zm⟩ := z
  obtain ⟨n, v, hn, hdg, hv0, hv1, hz1, hp, hf5, h5, hd⟩ := hI
  dsimp only at hz1 hp hf5 h5
  subst hz1
  have hp0 := hp
  obtain ⟨p1, p2, p3, p4, p5, p6⟩ := hp0
  obtain ⟨i1, i2⟩ := isAt_R (lo := 48) (hi := 57) hp (by omega) (by omega)
  have e48 : Int32.ofNat 48 = (48 : Int32) := rfl
  have e57 : Int32.ofNat 57 = (57 : Int32) := rfl
  rw [e48, e57] at i1 i2
  have n10 : ¬ ((1 : Int32) = 0) := by decide
  by_cases w : a + n < L ∧ 48 ≤ tx (a + n) ∧ tx (a + n) ≤ 57
  · have i3 : ¬ (f_r_isAt zm (48 : Int32) (57 : Int32) = 0) := by rw [i1, if_pos w]; exact n10
    obtain ⟨s1, s2⟩ := step_R hp w.1
    have z4 : zm 4 (zm 0 7).toNatClampNeg = Int32.ofNat (tx (a + n)) := by rw [p3, nI_ix (by omega)]; exact (p6 _ w.1).1
    have v7 : vp_in (zm 0 7) 60 := by rw [p3]; exact vp_in_nI (by omega) (by omega)
    have d10 : tx (a + n) - 48 < 10 := by omega
    have hm1 : L - ((g_set zm 0 (upd (zm 0) 7 ((zm 0 7) + (1 : Int32)))) 0 7).toNatClampNeg < L - (zm 0 7).toNatClampNeg := by
      rw [s1.2.2.1, p3, nI_ix (by omega), nI_ix (by omega)]; omega
    have hdg' : ∀ i, a ≤ i → i < a + (n + 1) → 48 ≤ tx i ∧ tx i ≤ 57 := fun i h1 h2 => by
      by_cases q : i = a + n
      · subst q; exact w.2
      · exact hdg i h1 (by omega)
    have z48 : Int32.ofNat (tx (a + n)) - (48 : Int32) = Int32.ofNat (tx (a + n) - 48) := nI_sub48 _ w.2.1
    have s1' : rP L tx (a + (n + 1)) t (g_set zm 0 (upd (zm 0) 7 ((zm 0 7) + (1 : Int32)))) := s1
    cases v with
    | none =>
      have n0 := hv0 rfl
      obtain ⟨c1, c2⟩ := canFollow_n0 zm d10
      have c3 : ¬ (f_r_canFollow zm (-1 : Int32) (Int32.ofNat (tx (a + n) - 48)) (-1 : Int32) = 0) := by rw [c1]; exact n10
      have hd' : drn tx (0, f0, l0, h0) a (n + 1) = some (1, tx (a + n) - 48, tx (a + n) - 48, 0) := drn_snoc hd (dst_0 w.2)
      unfold L_r_takesPage_2 K_r_takesPage_2 vI
      simp only [g_let_def, if_neg i3, if_neg nle10, z4, z48, if_neg c3, if_true, z_add]
      exact ⟨⟨i2, v7, c2, v7, trivial⟩, fun _ => ⟨⟨n + 1, some (tx (a + n) - 48), by omega, hdg', fun q => (by cases q), fun u q => (by cases q; omega), rfl, s1', fr5_t hf5 s2, h5, hd'⟩, hm1⟩, fun q => (by cases q)⟩
    | some u =>
      obtain ⟨u40, n1⟩ := hv1 u rfl
      have nu : ¬ (Int32.ofNat u = -1) := nI_ne1 (by omega)
      have hst : ¬ (1 ≤ u ∧ u ≤ 3) → dst 1 u u 0 (tx (a + n)) = none := fun q => by rw [dst_1 w.2, if_neg q]
      by_cases u10 : 10 ≤ u
      · have q10 : (10 : Int32) ≤ Int32.ofNat u := (leI (a := 10) (by omega) (by omega)).mpr u10
        unfold L_r_takesPage_2 K_r_takesPage_2 vI
        simp only [if_neg i3, if_pos q10]
        exact ⟨⟨i2, trivial⟩, fun q => (by cases q), fun _ => ⟨n, some u, hn, hdg, hv0, hv1, rfl, hp, hf5, h5, hd, fun _ _ => hst (by omega)⟩⟩
      · have q10 : ¬ ((10 : Int32) ≤ Int32.ofNat u) := fun z => u10 ((leI (a := 10) (by omega) (by omega)).mp z)
        obtain ⟨c1, c2⟩ := canFollow_v0 (v := u) zm (by omega) d10
        by_cases q : 1 ≤ u ∧ u ≤ 3
        · have c3 : ¬ (f_r_canFollow zm (Int32.ofNat u) (Int32.ofNat (tx (a + n) - 48)) (-1 : Int32) = 0) := by rw [c1, if_pos q]; exact n10
          have hd' : drn tx (0, f0, l0, h0) a (n + 1) = some (1, 10 * u + (tx (a + n) - 48), 10 * u + (tx (a + n) - 48), 0) := drn_snoc hd (by rw [dst_1 w.2, if_pos q])
          unfold L_r_takesPage_2 K_r_takesPage_2 vI
          simp only [g_let_def, if_neg i3, if_neg q10, z4, z48, if_neg c3, if_neg nu, t10 _ _ w.2.1]
          exact ⟨⟨i2, v7, c2, v7, trivial⟩, fun _ => ⟨⟨n + 1, some (10 * u + (tx (a + n) - 48)), by omega, hdg', fun q => (by cases q), fun u q => (by cases q; omega), rfl, s1', fr5_t hf5 s2, h5, hd'⟩, hm1⟩, fun q => (by cases q)⟩
        · have c3 : f_r_canFollow zm (Int32.ofNat u) (Int32.ofNat (tx (a + n) - 48)) (-1 : Int32) = 0 := by rw [c1, if_neg q]
          unfold L_r_takesPage_2 K_r_takesPage_2 vI
          simp only [if_neg i3, if_neg q10, z4, z48, if_pos c3]
          exact ⟨⟨i2, v7, c2, trivial⟩, fun q => (by cases q), fun _ => ⟨n, some u, hn, hdg, hv0, hv1, rfl, hp, hf5, h5, hd, fun _ _ => hst q⟩⟩
  · have i3 : f_r_isAt zm (48 : Int32) (57 : Int32) = 0 := by rw [i1, if_neg w]
    unfold L_r_takesPage_2 K_r_takesPage_2
    simp only [if_pos i3]
    exact ⟨⟨i2, trivial⟩, fun q => (by cases q), fun _ => ⟨n, v, hn, hdg, hv0, hv1, rfl, hp, hf5, h5, hd, fun q1 q2 => absurd ⟨q1, q2⟩ w⟩⟩
theorem page1_loop {L a t : Nat} {tx : Nat → Nat} {m : gM} {f : Nat} (hf : f < 39) {x1 : Int32} (h : rP L tx a t m) :
    rOk (L_r_takesPage_2 x1 (Int32.ofNat f)) (K_r_takesPage_2 x1 (Int32.ofNat f)) 400 ((-1 : Int32), m) ∧ ∃ n v, a + n ≤ L ∧ (∀ i, a ≤ i → i < a + n → 48 ≤ tx i ∧ tx i ≤ 57) ∧ (v = none → n = 0) ∧ (∀ u, v = some u → u < 40 ∧ 1 ≤ n) ∧ (run (L_r_takesPage_2 x1 (Int32.ofNat f)) 400 ((-1 : Int32), m)).1 = vI v ∧ rP L tx (a + n) t (run (L_r_takesPage_2 x1 (Int32.ofNat f)) 400 ((-1 : Int32), m)).2 ∧ fr5 m (run (L_r_takesPage_2 x1 (Int32.ofNat f)) 400 ((-1 : Int32), m)).2 ∧ (run (L_r_takesPage_2 x1 (Int32.ofNat f)) 400 ((-1 : Int32), m)).2 5 = m 5 ∧ drn tx (2, f, f, 0) a n = some (sg1 f v) ∧ (a + n < L → (48 ≤ tx (a + n) ∧ tx (a + n) ≤ 57) → dst (sg1 f v).1 (sg1 f v).2.1 (sg1 f v).2.2.1 (sg1 f v).2.2.2 (tx (a + n)) = none) := by
  refine run_wf (K := K_r_takesPage_2 x1 (Int32.ofNat f)) (fuel := 400) (fun (z : Int32 × gM) => ∃ n v, a + n ≤ L ∧ (∀ i, a ≤ i → i < a + n → 48 ≤ tx i ∧ tx i ≤ 57) ∧ (v = none → n = 0) ∧ (∀ u, v = some u → u < 40 ∧ 1 ≤ n) ∧ z.1 = vI v ∧ rP L tx (a + n) t z.2 ∧ fr5 m z.2 ∧ z.2 5 = m 5 ∧ drn tx (2, f, f, 0) a n = some (sg1 f v)) (fun (z : Int32 × gM) => L - (z.2 0 7).toNatClampNeg) (fun (z : Int32 × gM) => ∃ n v, a + n ≤ L ∧ (∀ i, a ≤ i → i < a + n → 48 ≤ tx i ∧ tx i ≤ 57) ∧ (v = none → n = 0) ∧ (∀ u, v = some u → u < 40 ∧ 1 ≤ n) ∧ z.1 = vI v ∧ rP L tx (a + n) t z.2 ∧ fr5 m z.2 ∧ z.2 5 = m 5 ∧ drn tx (2, f, f, 0) a n = some (sg1 f v) ∧ (a + n < L → (48 ≤ tx (a + n) ∧ tx (a + n) ≤ 57) → dst (sg1 f v).1 (sg1 f v).2.1 (sg1 f v).2.2.1 (sg1 f v).2.2.2 (tx (a + n)) = none)) (z := ((-1 : Int32), m)) ⟨0, none, by have := h.2.2.2.1; omega, fun i h1 h2 => by omega, fun _ => rfl, fun u w => (by cases w), rfl, h, fr5_r m, rfl, rfl⟩ (by show L - (m 0 7).toNatClampNeg < 400; have := h.2.1; omega) (fun z hI => ?_)
  obtain ⟨z1, zm⟩ := z
  obtain ⟨n, v, hn, hdg, hv0, hv1, hz1, hp, hf5, h5, hd⟩ := hI
  dsimp only at hz1 hp hf5 h5
  subst hz1
  have hp0 := hp
  obtain ⟨p1, p2, p3, p4, p5, p6⟩ := hp0
  obtain ⟨i1, i2⟩ := isAt_R (lo := 48) (hi := 57) hp (by omega) (by omega)
  have e48 : Int32.ofNat 48 = (48 : Int32) := rfl
  have e57 : Int32.ofNat 57 = (57 : Int32) := rfl
  rw [e48, e57] at i1 i2
  have n10 : ¬ ((1 : Int32) = 0) := by decide
  by_cases w : a + n < L ∧ 48 ≤ tx (a + n) ∧ tx (a + n) ≤ 57
  · have i3 : ¬ (f_r_isAt zm (48 : Int32) (57 : Int32) = 0) := by rw [i1, if_pos w]; exact n10
    obtain ⟨s1, s2⟩ := step_R hp w.1
    have z4 : zm 4 (zm 0 7).toNatClampNeg = Int32.ofNat (tx (a + n)) := by rw [p3, nI_ix (by omega)]; exact (p6 _ w.1).1
    have v7 : vp_in (zm 0 7) 60 := by rw [p3]; exact vp_in_nI (by omega) (by omega)
    have d10 : tx (a + n) - 48 < 10 := by omega
    have hm1 : L - ((g_set zm 0 (upd (zm 0) 7 ((zm 0 7) + (1 : Int32)))) 0 7).toNatClampNeg < L - (zm 0 7).toNatClampNeg := by
      rw [s1.2.2.1, p3, nI_ix (by omega), nI_ix (by omega)]; omega
    have hdg' : ∀ i, a ≤ i → i < a + (n + 1) → 48 ≤ tx i ∧ tx i ≤ 57 := fun i h1 h2 => by
      by_cases q : i = a + n
      · subst q; exact w.2
      · exact hdg i h1 (by omega)
    have z48 : Int32.ofNat (tx (a + n)) - (48 : Int32) = Int32.ofNat (tx (a + n) - 48) := nI_sub48 _ w.2.1
    have s1' : rP L tx (a + (n + 1)) t (g_set zm 0 (upd (zm 0) 7 ((zm 0 7) + (1 : Int32)))) := s1
    cases v with
    | none =>
      have n0 := hv0 rfl
      obtain ⟨c1, c2⟩ := canFollow_n (f := f) zm d10 (by omega)
      by_cases q : f < tx (a + n) - 48 ∨ (1 ≤ tx (a + n) - 48 ∧ tx (a + n) - 48 ≤ 3 ∧ f < 10 * (tx (a + n) - 48) + 9)
      · have c3 : ¬ (f_r_canFollow zm (-1 : Int32) (Int32.ofNat (tx (a + n) - 48)) (Int32.ofNat f) = 0) := by rw [c1, if_pos q]; exact n10
        have hd' : drn tx (2, f, f, 0) a (n + 1) = some (3, f, tx (a + n) - 48, 0) := drn_snoc hd (by rw [dst_2 w.2, if_pos q])
        unfold L_r_takesPage_2 K_r_takesPage_2 vI
        simp only [g_let_def, if_neg i3, if_neg nle10, z4, z48, if_neg c3, if_true, z_add]
        exact ⟨⟨i2, v7, c2, v7, trivial⟩, fun _ => ⟨⟨n + 1, some (tx (a + n) - 48), by omega, hdg', fun q => (by cases q), fun u q => (by cases q; omega), rfl, s1', fr5_t hf5 s2, h5, hd'⟩, hm1⟩, fun q => (by cases q)⟩
      · have c3 : f_r_canFollow zm (-1 : Int32) (Int32.ofNat (tx (a + n) - 48)) (Int32.ofNat f) = 0 := by rw [c1, if_neg q]
        unfold L_r_takesPage_2 K_r_takesPage_2 vI
        simp only [if_neg i3, if_neg nle10, z4, z48, if_pos c3]
        exact ⟨⟨i2, v7, c2, trivial⟩, fun q => (by cases q), fun _ => ⟨n, none, hn, hdg, hv0, hv1, rfl, hp, hf5, h5, hd, fun _ _ => by show dst 2 f f 0 (tx (a + n)) = none; rw [dst_2 w.2, if_neg q]⟩⟩
    | some u =>
      obtain ⟨u40, n1⟩ := hv1 u rfl
      have nu : ¬ (Int32.ofNat u = -1) := nI_ne1 (by omega)
      have hst : ¬ (1 ≤ u ∧ u ≤ 3 ∧ f < 10 * u + (tx (a + n) - 48)) → dst 3 f u 0 (tx (a + n)) = none := fun q => by rw [dst_3 w.2, if_neg q]
      by_cases u10 : 10 ≤ u
      · have q10 : (10 : Int32) ≤ Int32.ofNat u := (leI (a := 10) (by omega) (by omega)).mpr u10
        unfold L_r_takesPage_2 K_r_takesPage_2 vI
        simp only [if_neg i3, if_pos q10]
        exact ⟨⟨i2, trivial⟩, fun q => (by cases q), fun _ => ⟨n, some u, hn, hdg, hv0, hv1, rfl, hp, hf5, h5, hd, fun _ _ => hst (by omega)⟩⟩
      · have q10 : ¬ ((10 : Int32) ≤ Int32.ofNat u) := fun z => u10 ((leI (a := 10) (by omega) (by omega)).mp z)
        obtain ⟨c1, c2⟩ := canFollow_v (v := u) (f := f) zm (by omega) d10 (by omega)
        by_cases q : 1 ≤ u ∧ u ≤ 3 ∧ f < 10 * u + (tx (a + n) - 48)
        · have c3 : ¬ (f_r_canFollow zm (Int32.ofNat u) (Int32.ofNat (tx (a + n) - 48)) (Int32.ofNat f) = 0) := by rw [c1, if_pos q]; exact n10
          have hd' : drn tx (2, f, f, 0) a (n + 1) = some (3, f, 10 * u + (tx (a + n) - 48), 0) := drn_snoc hd (by rw [dst_3 w.2, if_pos q])
          unfold L_r_takesPage_2 K_r_takesPage_2 vI
          simp only [g_let_def, if_neg i3, if_neg q10, z4, z48, if_neg c3, if_neg nu, t10 _ _ w.2.1]
          exact ⟨⟨i2, v7, c2, v7, trivial⟩, fun _ => ⟨⟨n + 1, some (10 * u + (tx (a + n) - 48)), by omega, hdg', fun q => (by cases q), fun u q => (by cases q; omega), rfl, s1', fr5_t hf5 s2, h5, hd'⟩, hm1⟩, fun q => (by cases q)⟩
        · have c3 : f_r_canFollow zm (Int32.ofNat u) (Int32.ofNat (tx (a + n) - 48)) (Int32.ofNat f) = 0 := by rw [c1, if_neg q]
          unfold L_r_takesPage_2 K_r_takesPage_2 vI
          simp only [if_neg i3, if_neg q10, z4, z48, if_pos c3]
          exact ⟨⟨i2, v7, c2, trivial⟩, fun q => (by cases q), fun _ => ⟨n, some u, hn, hdg, hv0, hv1, rfl, hp, hf5, h5, hd, fun _ _ => hst q⟩⟩
  · have i3 : f_r_isAt zm (48 : Int32) (57 : Int32) = 0 := by rw [i1, if_neg w]
    unfold L_r_takesPage_2 K_r_takesPage_2
    simp only [if_pos i3]
    exact ⟨⟨i2, trivial⟩, fun q => (by cases q), fun _ => ⟨n, v, hn, hdg, hv0, hv1, rfl, hp, hf5, h5, hd, fun q1 q2 => absurd ⟨q1, q2⟩ w⟩⟩
theorem told_R {L a t k : Nat} {tx : Nat → Nat} {m : gM} {x : Int32} (h : rP L tx a t m) : rP L tx a t (g_set m 5 (upd (m 5) k x)) ∧ fr5 m (g_set m 5 (upd (m 5) k x)) ∧ (∀ j, j ≠ k → (g_set m 5 (upd (m 5) k x)) 5 j = m 5 j) ∧ (g_set m 5 (upd (m 5) k x)) 5 k = x :=
  ⟨h, ⟨fun c _ h5 => g_set_n h5, fun _ _ _ _ => rfl⟩, fun j hj => by rw [g_set_s, upd_at, if_neg hj], by rw [g_set_s, upd_at, if_pos rfl]⟩
theorem i3t {t k : Nat} {m : gM} (h : m 0 10 = Int32.ofNat t) (ht : 3 * t + k < 1000) : ((3 : Int32) * (m 0 10) + Int32.ofNat k).toNatClampNeg = 3 * t + k ∧ (3 * t + k < 96 → vp_in ((3 : Int32) * (m 0 10) + Int32.ofNat k) 96) := by
  have e : (3 : Int32) * (m 0 10) + Int32.ofNat k = Int32.ofNat (3 * t + k) := by rw [h, show (3 : Int32) = Int32.ofNat 3 from rfl, nI_times, nI_plus2]
  rw [e]
  exact ⟨nI_ix (by omega), fun w => vp_in_nI w (by omega)⟩
theorem takesPage0_R {L a t f0 l0 h0 : Nat} {tx : Nat → Nat} {m : gM} (h : rP L tx a t m) (ht : 3 * t + 2 < 96) : o_r_takesPage m (0 : Int32) (-1 : Int32) ∧ ∃ n, a + n ≤ L ∧ (∀ i, a ≤ i → i < a + n → 48 ≤ tx i ∧ tx i ≤ 57) ∧ rP L tx (a + n) t (f_r_takesPage m (0 : Int32) (-1 : Int32)).2 ∧ fr5 m (f_r_takesPage m (0 : Int32) (-1 : Int32)).2 ∧ (∀ j, j ≠ 3 * t → (f_r_takesPage m (0 : Int32) (-1 : Int32)).2 5 j = m 5 j) ∧
    ((∃ v, v < 40 ∧ 1 ≤ n ∧ (f_r_takesPage m (0 : Int32) (-1 : Int32)).1 = 1 ∧ (f_r_takesPage m (0 : Int32) (-1 : Int32)).2 5 (3 * t) = Int32.ofNat v ∧ drn tx (0, f0, l0, h0) a n = some (1, v, v, 0) ∧ (a + n < L → (48 ≤ tx (a + n) ∧ tx (a + n) ≤ 57) → dst 1 v v 0 (tx (a + n)) = none)) ∨ (n = 0 ∧ (f_r_takesPage m (0 : Int32) (-1 : Int32)).1 = 0 ∧ ((a < L ∧ (f_r_takesPage m (0 : Int32) (-1 : Int32)).2 0 8 = 1 ∧ ¬ (48 ≤ tx a ∧ tx a ≤ 57)) ∨ (a = L ∧ (f_r_takesPage m (0 : Int32) (-1 : Int32)).2 0 8 = 0)))) := by
  obtain ⟨k1, n, v, k2, k3, k4, k5, k6, k7, k8, k9, k10, k11⟩ := page0_loop (f0 := f0) (l0 := l0) (h0 := h0) (x1 := (0 : Int32)) h
  unfold f_r_takesPage o_r_takesPage
  simp only [g_let_def]
  generalize hZ : run (L_r_takesPage_2 (0 : Int32) (-1 : Int32)) 400 ((-1 : Int32), m) = Z at *
  obtain ⟨j1, j2⟩ := i3t (k := 0) k7.2.2.2.2.1 (by omega)
  have e0 : Int32.ofNat 0 = (0 : Int32) := rfl
  rw [e0] at j1 j2
  obtain ⟨w1, w2, w3, w4⟩ := told_R (k := 3 * t) (x := Z.1) k7
  rw [j1, Nat.add_zero]
  generalize hY : g_set Z.2 5 (upd (Z.2 5) (3 * t) Z.1) = Y at *
  cases v with
  | none =>
    have n0 := k4 rfl
    subst n0
    have nlt : ¬ ((-1 : Int32) < Z.1) := by rw [k6]; show ¬ ((-1 : Int32) < (-1 : Int32)); decide
    obtain ⟨s1, s2, s3, s4, s5, s6⟩ := stops_R w1
    simp only [if_neg nlt, if_pos s1]
    refine ⟨⟨k1, j2 (by omega), s6, trivial⟩, 0, k2, k3, s2, fr5_t k8 (fr5_t w2 s3), fun j hj => by rw [s4, w3 j hj, k9], Or.inr ⟨rfl, trivial, ?_⟩⟩
    rcases s5 with ⟨q1, q2⟩ | ⟨q1, q2⟩
    · exact Or.inl ⟨q1, q2, fun q => by
        have this' : dst 0 f0 l0 h0 (tx a) = none := k11 q1 q
        rw [dst_0 q] at this'
        cases this'⟩
    · exact Or.inr ⟨q1, q2⟩
  | some u =>
    obtain ⟨u40, n1⟩ := k5 u rfl
    have lt : (-1 : Int32) < Z.1 := by rw [k6]; exact m1lt u (by omega)
    simp only [if_pos lt]
    exact ⟨⟨k1, j2 (by omega), trivial⟩, n, k2, k3, w1, fr5_t k8 w2, fun j hj => by rw [w3 j hj, k9], Or.inl ⟨u, u40, n1, trivial, by rw [w4, k6]; rfl, k10, k11⟩⟩
theorem takesPage1_R {L a t f : Nat} {tx : Nat → Nat} {m : gM} (h : rP L tx a t m) (ht : 3 * t + 2 < 96) (hf : f < 39) : o_r_takesPage m (1 : Int32) (Int32.ofNat f) ∧ ∃ n, a + n ≤ L ∧ (∀ i, a ≤ i → i < a + n → 48 ≤ tx i ∧ tx i ≤ 57) ∧ rP L tx (a + n) t (f_r_takesPage m (1 : Int32) (Int32.ofNat f)).2 ∧ fr5 m (f_r_takesPage m (1 : Int32) (Int32.ofNat f)).2 ∧ (∀ j, j ≠ 3 * t + 1 → (f_r_takesPage m (1 : Int32) (Int32.ofNat f)).2 5 j = m 5 j) ∧
    ((∃ v, f < v ∧ v < 40 ∧ (f_r_takesPage m (1 : Int32) (Int32.ofNat f)).1 = 1 ∧ (f_r_takesPage m (1 : Int32) (Int32.ofNat f)).2 5 (3 * t + 1) = Int32.ofNat v ∧ drn tx (2, f, f, 0) a n = some (3, f, v, 0) ∧ (a + n < L → (48 ≤ tx (a + n) ∧ tx (a + n) ≤ 57) → dst 3 f v 0 (tx (a + n)) = none)) ∨ (∃ b l, ((b = 2 ∧ l = f) ∨ (b = 3 ∧ ¬ f < l)) ∧ drn tx (2, f, f, 0) a n = some (b, f, l, 0) ∧ (f_r_takesPage m (1 : Int32) (Int32.ofNat f)).1 = 0 ∧ ((a + n < L ∧ (f_r_takesPage m (1 : Int32) (Int32.ofNat f)).2 0 8 = 1 ∧ dst b f l 0 (tx (a + n)) = none) ∨ (a + n = L ∧ (f_r_takesPage m (1 : Int32) (Int32.ofNat f)).2 0 8 = 0)))) := by
  obtain ⟨k1, n, v, k2, k3, k4, k5, k6, k7, k8, k9, k10, k11⟩ := page1_loop (f := f) hf (x1 := (1 : Int32)) h
  unfold f_r_takesPage o_r_takesPage
  simp only [g_let_def]
  generalize hZ : run (L_r_takesPage_2 (1 : Int32) (Int32.ofNat f)) 400 ((-1 : Int32), m) = Z at *
  obtain ⟨j1, j2⟩ := i3t (k := 1) k7.2.2.2.2.1 (by omega)
  have e0 : Int32.ofNat 1 = (1 : Int32) := rfl
  rw [e0] at j1 j2
  obtain ⟨w1, w2, w3, w4⟩ := told_R (k := 3 * t + 1) (x := Z.1) k7
  rw [j1]
  generalize hY : g_set Z.2 5 (upd (Z.2 5) (3 * t + 1) Z.1) = Y at *
  have hstop : ¬ (Int32.ofNat f < Z.1) → ∀ b l, ((b = 2 ∧ l = f) ∨ (b = 3 ∧ ¬ f < l)) → drn tx (2, f, f, 0) a n = some (b, f, l, 0) → (a + n < L → (48 ≤ tx (a + n) ∧ tx (a + n) ≤ 57) → dst b f l 0 (tx (a + n)) = none) → _ := fun nlt b l hbl hdr hdn => by
    obtain ⟨s1, s2, s3, s4, s5, s6⟩ := stops_R w1
    have q : ((a + n < L ∧ (f_r_stops Y).2 0 8 = 1 ∧ dst b f l 0 (tx (a + n)) = none) ∨ (a + n = L ∧ (f_r_stops Y).2 0 8 = 0)) := by
      rcases s5 with ⟨q1, q2⟩ | ⟨q1, q2⟩
      · refine Or.inl ⟨q1, q2, ?_⟩
        by_cases q : 48 ≤ tx (a + n) ∧ tx (a + n) ≤ 57
        · exact hdn q1 q
        · exact dst_nd (by omega) q
      · exact Or.inr ⟨q1, q2⟩
    exact (⟨s1, s2, fr5_t k8 (fr5_t w2 s3), fun j hj => by rw [s4, w3 j hj, k9], s6, q⟩ : (f_r_stops Y).1 = 0 ∧ rP L tx (a + n) t (f_r_stops Y).2 ∧ fr5 m (f_r_stops Y).2 ∧ (∀ j, j ≠ 3 * t + 1 → (f_r_stops Y).2 5 j = m 5 j) ∧ o_r_stops Y ∧ ((a + n < L ∧ (f_r_stops Y).2 0 8 = 1 ∧ dst b f l 0 (tx (a + n)) = none) ∨ (a + n = L ∧ (f_r_stops Y).2 0 8 = 0)))
  cases v with
  | none =>
    have nlt : ¬ (Int32.ofNat f < Z.1) := by rw [k6]; exact Int32.not_lt.mpr (Int32.le_of_lt (m1lt f (by omega)))
    obtain ⟨s1, s2, s3, s4, s6, s5⟩ := hstop nlt 2 f (Or.inl ⟨rfl, rfl⟩) k10 k11
    simp only [if_neg nlt, if_pos s1]
    exact ⟨⟨k1, j2 (by omega), s6, trivial⟩, n, k2, k3, s2, s3, s4, Or.inr ⟨2, f, Or.inl ⟨rfl, rfl⟩, k10, trivial, s5⟩⟩
  | some u =>
    obtain ⟨u40, n1⟩ := k5 u rfl
    have hu : Z.1 = Int32.ofNat u := k6
    by_cases w : f < u
    · have lt : Int32.ofNat f < Z.1 := by rw [hu]; exact ltL (by omega) (by omega) w
      simp only [if_pos lt]
      exact ⟨⟨k1, j2 (by omega), trivial⟩, n, k2, k3, w1, fr5_t k8 w2, fun j hj => by rw [w3 j hj, k9], Or.inl ⟨u, w, u40, trivial, by rw [w4, hu], k10, k11⟩⟩
    · have nlt : ¬ (Int32.ofNat f < Z.1) := by rw [hu]; exact nltL (by omega) (by omega) w
      obtain ⟨s1, s2, s3, s4, s6, s5⟩ := hstop nlt 3 u (Or.inr ⟨rfl, w⟩) k10 k11
      simp only [if_neg nlt, if_pos s1]
      exact ⟨⟨k1, j2 (by omega), s6, trivial⟩, n, k2, k3, s2, s3, s4, Or.inr ⟨3, u, Or.inr ⟨rfl, w⟩, k10, trivial, s5⟩⟩
