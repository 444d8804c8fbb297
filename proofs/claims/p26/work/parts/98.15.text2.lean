theorem rdR_of {m : gM} {b f l h : Nat} (r : rdS m b f l h) : rdR m b f l h := ⟨r.1, fun _ => r.2⟩
theorem ltL {a b : Nat} (ha : a < 2147483648) (hb : b < 2147483648) (h : a < b) : Int32.ofNat a < Int32.ofNat b := (ltI ha hb).mpr h
theorem nltL {a b : Nat} (ha : a < 2147483648) (hb : b < 2147483648) (h : ¬ a < b) : ¬ (Int32.ofNat a < Int32.ofNat b) := fun w => h ((ltI ha hb).mp w)
theorem neL {a b : Nat} (ha : a < 2147483648) (hb : b < 2147483648) (h : a ≠ b) : ¬ (Int32.ofNat a = Int32.ofNat b) := fun w => h ((eqI ha hb).mp w)
theorem accepts_d {m : gM} {b f l h c : Nat} (hr : rdR m b f l h) (hv : vS b f l h) (hc : c < 128) : acR m b f l h c (f_d_accepts m (Int32.ofNat c)) ∧ o_d_accepts m (Int32.ofNat c) := by
  have hv0 := hv
  obtain ⟨v1, v2, v3, v4, v5, v6, v7⟩ := hv
  have hr0 := hr
  obtain ⟨r0, r1⟩ := hr
  have n10 : ¬ ((1 : Int32) = 0) := by decide
  obtain ⟨pw1, pw2⟩ := partWhole_d hr0 v1 v2 v3
  by_cases hd : 48 ≤ c ∧ c ≤ 57
  · obtain ⟨d, rfl⟩ : ∃ d, c = 48 + d := ⟨c - 48, by omega⟩
    have hd10 : d < 10 := by omega
    have e1 : ¬ (Int32.ofNat (48 + d) < (48 : Int32)) := nltL (b := 48) (by omega) (by omega) (by omega)
    have e2 : ¬ ((57 : Int32) < Int32.ofNat (48 + d)) := nltL (a := 57) (by omega) (by omega) (by omega)
    have e3 : Int32.ofNat (48 + d) - (48 : Int32) = Int32.ofNat d := by rw [Nat.add_comm]; exact subNN d 48
    obtain ⟨k1, k2⟩ := acceptsDigit_d hr0 hv0 hd10
    unfold f_d_accepts o_d_accepts
    simp only [if_neg e1, if_neg e2, e3, g_let_def]
    refine ⟨k1, k2, ?_, trivial⟩
    rcases k1 with ⟨-, k3⟩ | ⟨b', f', l', h', -, k3, -⟩
    · exact Or.inl (by rw [k3])
    · exact Or.inr k3
  · by_cases h45 : c = 45
    · subst h45
      have e1 : Int32.ofNat 45 < (48 : Int32) := by decide
      have e2 : Int32.ofNat 45 = (45 : Int32) := rfl
      unfold f_d_accepts o_d_accepts acR dst
      simp only [if_pos e1, if_pos e2, if_neg hd, if_true]
      by_cases hb1 : b = 1
      · subst hb1
        obtain ⟨q1, q2, q3⟩ := r1 (by omega)
        have e3 : m 0 0 = (1 : Int32) := r0
        have k39 := leI (a := 39) (b := f) (by omega) (by omega)
        by_cases w : 39 ≤ f
        · have w' : (39 : Int32) ≤ m 0 1 := by rw [q1]; exact k39.mpr w
          simp only [if_pos e3, if_pos w', g_let_def, (goesOn_0 _ _).1]
          exact ⟨Or.inl ⟨if_neg (fun z => by omega), trivial⟩, (goesOn_0 _ _).2, Or.inl trivial, trivial⟩
        · have w' : ¬ ((39 : Int32) ≤ m 0 1) := by rw [q1]; exact fun z => w (k39.mp z)
          simp only [if_pos e3, if_neg w', g_let_def, (goesOn_1 _ _).1]
          exact ⟨Or.inr ⟨2, f, l, h, if_pos ⟨trivial, by omega⟩, trivial, rfl, q1, q2, q3⟩, (goesOn_1 _ _).2, Or.inr trivial, trivial⟩
      · have e3 : ¬ (m 0 0 = (1 : Int32)) := by rw [r0]; exact neL (b := 1) (by omega) (by omega) hb1
        simp only [if_neg e3, if_neg (show ¬ (b = 1 ∧ f < 39) by omega), g_let_def, (goesOn_0 _ _).1]
        exact ⟨Or.inl ⟨trivial, trivial⟩, (goesOn_0 _ _).2, Or.inl trivial, trivial⟩
    · by_cases h59 : c = 59
      · subst h59
        have e1 : ¬ (Int32.ofNat 59 < (48 : Int32)) := by decide
        have e2 : (57 : Int32) < Int32.ofNat 59 := by decide
        have e3 : ¬ (Int32.ofNat 59 = (45 : Int32)) := by decide
        have e4 : Int32.ofNat 59 = (59 : Int32) := rfl
        have d45 : ¬ (59 = 45) := by omega
        have d104 : ¬ (59 = 104) := by omega
        unfold f_d_accepts o_d_accepts acR dst
        simp only [if_neg e1, if_pos e2, if_neg e3, if_pos e4, if_neg hd, if_neg d45, if_neg d104, if_true, g_let_def]
        rcases pw1 with ⟨w, p⟩ | ⟨w, p⟩
        · have hb0 : b ≠ 0 := by unfold pW at w; omega
          obtain ⟨q1, q2, q3⟩ := r1 hb0
          have w' : b = 1 ∨ b = 5 ∨ b = 3 ∧ f < l := w
          simp only [p, if_pos w', (goesOn_1 _ _).1]
          exact ⟨Or.inr ⟨0, f, l, h, rfl, trivial, rfl, q1, q2, q3⟩, pw2, (goesOn_1 _ _).2, Or.inr trivial, trivial⟩
        · have w' : ¬ (b = 1 ∨ b = 5 ∨ b = 3 ∧ f < l) := w
          simp only [p, if_neg w', (goesOn_0 _ _).1]
          exact ⟨Or.inl ⟨trivial, trivial⟩, pw2, (goesOn_0 _ _).2, Or.inl trivial, trivial⟩
      · by_cases h104 : c = 104
        · subst h104
          have e1 : ¬ (Int32.ofNat 104 < (48 : Int32)) := by decide
          have e2 : (57 : Int32) < Int32.ofNat 104 := by decide
          have e3 : ¬ (Int32.ofNat 104 = (45 : Int32)) := by decide
          have e4 : ¬ (Int32.ofNat 104 = (59 : Int32)) := by decide
          have e5 : Int32.ofNat 104 = (104 : Int32) := rfl
          have d45 : ¬ (104 = 45) := by omega
          unfold f_d_accepts o_d_accepts acR dst
          simp only [if_neg e1, if_pos e2, if_neg e3, if_neg e4, if_pos e5, if_neg hd, if_neg d45, if_true, g_let_def]
          rcases pw1 with ⟨w, p⟩ | ⟨w, p⟩
          · have hb0 : b ≠ 0 := by unfold pW at w; omega
            obtain ⟨q1, q2, q3⟩ := r1 hb0
            have p' : ¬ (f_d_isPartWhole m = 0) := by rw [p]; exact n10
            by_cases h5 : b = 5
            · have e6 : m 0 0 = (5 : Int32) := by rw [r0, h5]; rfl
              simp only [if_neg p', if_pos e6, if_neg (show ¬ (b = 1 ∨ (b = 3 ∧ f < l)) by omega), (goesOn_0 _ _).1]
              exact ⟨Or.inl ⟨trivial, trivial⟩, pw2, (goesOn_0 _ _).2, Or.inl trivial, trivial⟩
            · have e6 : ¬ (m 0 0 = (5 : Int32)) := by rw [r0]; exact neL (b := 5) (by omega) (by omega) h5
              have w' : b = 1 ∨ (b = 3 ∧ f < l) := by unfold pW at w; omega
              simp only [if_neg p', if_neg e6, if_pos w', (goesOn_1 _ _).1]
              exact ⟨Or.inr ⟨4, f, l, h, rfl, trivial, rfl, q1, q2, q3⟩, pw2, (goesOn_1 _ _).2, Or.inr trivial, trivial⟩
          · have w' : ¬ (b = 1 ∨ (b = 3 ∧ f < l)) := by unfold pW at w; omega
            simp only [if_pos p, if_neg w', (goesOn_0 _ _).1]
            exact ⟨Or.inl ⟨trivial, trivial⟩, pw2, (goesOn_0 _ _).2, Or.inl trivial, trivial⟩
        · have m45 : ¬ (Int32.ofNat c = (45 : Int32)) := neL (b := 45) (by omega) (by omega) h45
          have m59 : ¬ (Int32.ofNat c = (59 : Int32)) := neL (b := 59) (by omega) (by omega) h59
          have m104 : ¬ (Int32.ofNat c = (104 : Int32)) := neL (b := 104) (by omega) (by omega) h104
          have hdn : dst b f l h c = none := by
            unfold dst; rw [if_neg hd, if_neg h45, if_neg h104, if_neg h59]
          unfold f_d_accepts o_d_accepts acR
          by_cases w : c < 48
          · have e1 : Int32.ofNat c < (48 : Int32) := ltL (b := 48) (by omega) (by omega) w
            simp only [if_pos e1, if_neg m45, if_neg m59, if_neg m104]
            exact ⟨Or.inl ⟨hdn, trivial⟩, trivial⟩
          · have e1 : ¬ (Int32.ofNat c < (48 : Int32)) := nltL (b := 48) (by omega) (by omega) w
            have e2 : (57 : Int32) < Int32.ofNat c := ltL (a := 57) (by omega) (by omega) (by omega)
            simp only [if_neg e1, if_pos e2, if_neg m45, if_neg m59, if_neg m104]
            exact ⟨Or.inl ⟨hdn, trivial⟩, trivial⟩
theorem g_mrg3 (z r : gM) : (∀ c, c ≠ 3 → g_mrg [3] z r c = z c) ∧ g_mrg [3] z r 3 = r 0 :=
  ⟨fun c h1 => g_mrg_out (by simp; omega), rfl⟩
theorem restart_d (m : gM) : f_d_restart m = g_set m 0 (upd (m 0) 0 0) ∧ o_d_restart m := by
  unfold f_d_restart o_d_restart; rw [g_let_def, g_let_def]; exact ⟨rfl, trivial⟩
/-- the buffer of the class's picture -/
def bfR (L : Nat) (tx : Nat → Nat) (mh : gM) : Prop := mh 0 5 = Int32.ofNat L ∧ L ≤ 60 ∧ ∀ i, i < L → mh 2 i = Int32.ofNat (tx i) ∧ 33 ≤ tx i ∧ tx i ≤ 126
def vS_0 : vS 0 0 0 0 := ⟨by omega, by omega, by omega, by omega, by omega, by omega, by omega⟩
theorem readBuffer_d {L : Nat} {tx : Nat → Nat} {mh : gM} (hb : bfR L tx mh) : o_h_readBuffer mh ∧ ∃ i b f l h, (f_h_readBuffer mh).1 = Int32.ofNat i ∧ i ≤ L ∧ drn tx (0, 0, 0, 0) 0 i = some (b, f, l, h) ∧ (i = L ∨ (i < L ∧ dst b f l h (tx i) = none)) ∧ rdR (g_sel [3] (f_h_readBuffer mh).2) b f l h ∧ ∀ c, c ≠ 3 → (f_h_readBuffer mh).2 c = mh c := by
  obtain ⟨b1, b2, b3⟩ := hb
  have hz0 := restart_d (g_sel [3] mh)
  have hg := g_mrg3 mh (f_d_restart (g_sel [3] mh))
  have hL := run_wf (f := L_h_readBuffer_9) (K := K_h_readBuffer_9) (fuel := 400) (z := ((0 : Int32), g_mrg [3] mh (f_d_restart (g_sel [3] mh)), 0))
    (fun (z : Int32 × gM × Nat) => ∃ i b f l h, z.1 = Int32.ofNat i ∧ i ≤ L ∧ drn tx (0, 0, 0, 0) 0 i = some (b, f, l, h) ∧ rdR (g_sel [3] z.2.1) b f l h ∧ ∀ c, c ≠ 3 → z.2.1 c = mh c)
    (fun (z : Int32 × gM × Nat) => L - z.1.toNatClampNeg)
    (fun (z : Int32 × gM × Nat) => ∃ i b f l h, z.1 = Int32.ofNat i ∧ i ≤ L ∧ drn tx (0, 0, 0, 0) 0 i = some (b, f, l, h) ∧ ((i = L ∧ z.2.2 = 0) ∨ (i < L ∧ dst b f l h (tx i) = none ∧ z.2.2 = 1)) ∧ rdR (g_sel [3] z.2.1) b f l h ∧ ∀ c, c ≠ 3 → z.2.1 c = mh c)
    ⟨0, 0, 0, 0, 0, rfl, by omega, rfl, ⟨?_, fun w => absurd rfl w⟩, hg.1⟩ (by dsimp only; omega) (fun z hI => ?_)
  · obtain ⟨k1, i, b, f, l, h, k2, k3, k4, k5, k6, k7⟩ := hL
    unfold f_h_readBuffer o_h_readBuffer
    simp only [g_let_def]
    refine ⟨⟨hz0.2, k1, ?_⟩, i, b, f, l, h, ?_, k3, k4, ?_, ?_, ?_⟩
    · split <;> trivial
    · rcases k5 with ⟨w1, w2⟩ | ⟨w1, -, w2⟩
      · rw [if_pos w2]; show (run L_h_readBuffer_9 400 _).2.1 0 5 = _
        rw [k7 0 (by decide), b1, w1]
      · rw [if_neg (by rw [w2]; omega)]; exact k2
    · rcases k5 with ⟨w1, w2⟩ | ⟨w1, w3, w2⟩
      · exact Or.inl w1
      · exact Or.inr ⟨w1, w3⟩
    · split
      · exact k6
      · exact k6
    · split
      · exact k7
      · exact k7
  · show (g_mrg [3] mh (f_d_restart (g_sel [3] mh))) 3 0 = Int32.ofNat 0
    rw [hg.2, hz0.1]; rfl
  · obtain ⟨z1, zm, zc⟩ := z
    obtain ⟨i, b, f, l, h, hz1, hi, hd, hr, hs⟩ := hI
    dsimp only at hz1 hr hs
    subst hz1
    have z05 : zm 0 5 = Int32.ofNat L := by rw [hs 0 (by decide), b1]
    have hvs := drn_vS i 0 vS_0 hd
    by_cases hiL : i < L
    · have hle : ¬ (zm 0 5 ≤ Int32.ofNat i) := by rw [z05]; exact fun w => by have := (leI (by omega) (by omega)).mp w; omega
      obtain ⟨t1, t2, t3⟩ := b3 i hiL
      have z2i : zm 2 (Int32.ofNat i).toNatClampNeg = Int32.ofNat (tx i) := by rw [nI_ix (by omega), hs 2 (by decide), t1]
      obtain ⟨a1, a2⟩ := accepts_d hr hvs (show tx i < 128 by omega)
      have vi := vp_in_nI (show i < 60 by omega) (show 60 < 2 ^ 31 by omega)
      have n10 : ¬ ((1 : Int32) = 0) := by decide
      rcases a1 with ⟨x1, x2⟩ | ⟨b', f', l', h', x1, x2, x3⟩
      · have e : g_mrg [3] zm (g_sel [3] zm) = zm := g_mrg_id (by decide)
        unfold L_h_readBuffer_9 K_h_readBuffer_9
        simp only [g_let_def, if_neg hle, z2i, x2, if_true, e]
        refine ⟨⟨vi, a2, trivial⟩, fun w => (by cases w), fun _ => ⟨i, b, f, l, h, rfl, hi, hd, Or.inr ⟨hiL, x1, trivial⟩, hr, hs⟩⟩
      · have x4 : ¬ ((f_d_accepts (g_sel [3] zm) (Int32.ofNat (tx i))).1 = 0) := by rw [x2]; exact n10
        unfold L_h_readBuffer_9 K_h_readBuffer_9
        simp only [g_let_def, if_neg hle, z2i, if_neg x4, e1r]
        refine ⟨⟨vi, a2, trivial⟩, fun _ => ⟨⟨i + 1, b', f', l', h', rfl, by omega, drn_snoc hd (by rw [Nat.zero_add]; exact x1), rdR_of x3, fun c hc => ?_⟩, ?_⟩, fun w => by cases w⟩
        · exact ((g_mrg3 zm _).1 c hc).trans (hs c hc)
        · rw [nI_ix (by omega), nI_ix (by omega)]; omega
    · have hle : zm 0 5 ≤ Int32.ofNat i := by rw [z05]; exact (leI (by omega) (by omega)).mpr (by omega)
      unfold L_h_readBuffer_9 K_h_readBuffer_9
      simp only [if_pos hle]
      exact ⟨trivial, fun w => (by cases w), fun _ => ⟨i, b, f, l, h, rfl, hi, hd, Or.inl ⟨by omega, trivial⟩, hr, hs⟩⟩
