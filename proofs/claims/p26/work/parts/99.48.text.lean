/-! texts: what is typed, what is read, what is written -/
theorem rb_at {L i0 b0 f0 l0 h0 : Nat} {tx : Nat → Nat} {mh : gM} (hb : bfR L tx mh) (hi : i0 ≤ L) (h1 : drn tx (0, 0, 0, 0) 0 i0 = some (b0, f0, l0, h0)) (h2 : i0 = L ∨ dst b0 f0 l0 h0 (tx i0) = none) :
    o_h_readBuffer mh ∧ (f_h_readBuffer mh).1 = Int32.ofNat i0 ∧ rdR (g_sel [3] (f_h_readBuffer mh).2) b0 f0 l0 h0 ∧ ∀ c, c ≠ 3 → (f_h_readBuffer mh).2 c = mh c := by
  obtain ⟨k1, i, b, f, l, h, k2, k3, k4, k5, k6, k7⟩ := readBuffer_d hb
  have e : i = i0 := by
    rcases Nat.lt_trichotomy i i0 with q | q | q
    · rcases k5 with w | ⟨w1, w2⟩
      · omega
      · have := drn_stop (a := 0) k4 (by rw [Nat.zero_add]; exact w2) i0 q
        rw [h1] at this; cases this
    · exact q
    · rcases h2 with w | w
      · omega
      · have := drn_stop (a := 0) h1 (by rw [Nat.zero_add]; exact w) i q
        rw [k4] at this; cases this
  subst e
  rw [h1] at k4
  obtain ⟨e1, e2, e3, e4⟩ := some4 k4
  subst e1; subst e2; subst e3; subst e4
  exact ⟨k1, k2, k6, k7⟩
theorem err_at {L i0 b0 f0 l0 h0 : Nat} {tx : Nat → Nat} {mh : gM} (hb : bfR L tx mh) (hi : i0 ≤ L) (h1 : drn tx (0, 0, 0, 0) 0 i0 = some (b0, f0, l0, h0)) (h2 : i0 = L ∨ dst b0 f0 l0 h0 (tx i0) = none) :
    o_h_firstError mh ∧ (f_h_firstError mh).1 = Int32.ofNat i0 ∧ ∀ c, c ≠ 3 → (f_h_firstError mh).2 c = mh c := by
  obtain ⟨k1, k2, -, k3⟩ := rb_at hb hi h1 h2
  unfold o_h_firstError f_h_firstError
  simp only [g_let_def]
  exact ⟨⟨k1, trivial⟩, k2, k3⟩
theorem append_b {L c : Nat} {tx : Nat → Nat} {mh : gM} (hb : bfR L tx mh) (hL : L < 60) (hc1 : 33 ≤ c) (hc2 : c ≤ 126) :
    o_h_append mh (Int32.ofNat c) ∧ (f_h_append mh (Int32.ofNat c)).1 = Int32.ofNat (L + 1) ∧ bfR (L + 1) (fun i => if i = L then c else tx i) (f_h_append mh (Int32.ofNat c)).2 ∧ (∀ y, y ≠ 0 → y ≠ 2 → (f_h_append mh (Int32.ofNat c)).2 y = mh y) ∧ ∀ f, f ≠ 5 → (f_h_append mh (Int32.ofNat c)).2 0 f = mh 0 f := by
  obtain ⟨b1, b2, b3⟩ := hb
  have n1 : ¬ (Int32.ofNat c < (33 : Int32)) := nltL (b := 33) (by omega) (by omega) (by omega)
  have n2 : Int32.ofNat c ≤ (126 : Int32) := (leI (b := 126) (by omega) (by omega)).mpr hc2
  have n3 : mh 0 5 < (60 : Int32) := by rw [b1]; exact ltL (b := 60) (by omega) (by omega) hL
  have ix : (mh 0 5).toNatClampNeg = L := by rw [b1]; exact nI_ix (by omega)
  have vp : vp_in (mh 0 5) 60 := by rw [b1]; exact vp_in_nI hL (by omega)
  have e0 : g_set mh 2 (upd (mh 2) (mh 0 5).toNatClampNeg (Int32.ofNat c)) 0 = mh 0 := g_set_n (by omega)
  unfold o_h_append f_h_append
  simp only [g_let_def, if_neg n1, if_pos n2, if_pos n3]
  refine ⟨⟨vp, trivial⟩, ?_, ⟨?_, by omega, fun i hi => ?_⟩, fun y y0 y2 => ?_, fun f hf => ?_⟩
  · rw [g_set_s, upd_at, if_pos rfl, e0, b1, e1r]
  · rw [g_set_s, upd_at, if_pos rfl, e0, b1, e1r]
  · rw [g_set_n (by omega), g_set_s, upd_at, ix]
    show (if i = L then Int32.ofNat c else mh 2 i) = Int32.ofNat (if i = L then c else tx i) ∧ 33 ≤ (if i = L then c else tx i) ∧ (if i = L then c else tx i) ≤ 126
    by_cases q : i = L
    · simp only [if_pos q]; exact ⟨trivial, hc1, hc2⟩
    · simp only [if_neg q]; exact b3 i (by omega)
  · rw [g_set_n y0, g_set_n y2]
  · rw [g_set_s, upd_at, if_neg hf, e0]
/-- eight signs at most, the highest byte first; a zero byte is none -/
def apB (bs : Nat → Nat) (s : Nat × (Nat → Nat)) : Nat → Nat × (Nat → Nat)
  | 0 => s
  | n + 1 => if bs n = 0 then apB bs s n else ((apB bs s n).1 + 1, fun i => if i = (apB bs s n).1 then bs n else (apB bs s n).2 i)
theorem apB_le (bs : Nat → Nat) (s : Nat × (Nat → Nat)) : ∀ n, (apB bs s n).1 ≤ s.1 + n := by
  intro n
  induction n with
  | zero => exact Nat.le_refl _
  | succ n ih =>
    unfold apB
    split
    · omega
    · show (apB bs s n).1 + 1 ≤ _; omega
theorem kI8 : ∀ n : Nat, n < 8 → Int32.ofInt (56 - 8 * (n : Int)) + (-8 : Int32) = Int32.ofInt (56 - 8 * ((n + 1 : Nat) : Int)) ∧ ¬ (Int32.ofInt (56 - 8 * (n : Int)) < 0) := by decide
theorem types_w {L : Nat} {tx bs : Nat → Nat} {w : Int64} {m : gM} (hb : bfR L tx m) (hL : L + 8 ≤ 60) (hw : ∀ n : Nat, n < 8 → Int64.toInt32 ((w >>> ((Int32.ofInt (56 - 8 * (n : Int))).toInt64 &&& 63)) &&& (255 : Int64)) = Int32.ofNat (bs n)) (hbs : ∀ n : Nat, n < 8 → bs n = 0 ∨ (33 ≤ bs n ∧ bs n ≤ 126)) :
    o_l_types m w ∧ (f_l_types m w).1 = 1 ∧ bfR (apB bs (L, tx) 8).1 (apB bs (L, tx) 8).2 (f_l_types m w).2 ∧ (∀ y, y ≠ 0 → y ≠ 2 → (f_l_types m w).2 y = m y) ∧ ∀ f, f ≠ 5 → (f_l_types m w).2 0 f = m 0 f := by
  have hL2 := run_count (f := L_l_types_6 w) (K := K_l_types_6 w) (N := 8) (fuel := 400) (z := ((1 : Int32), (56 : Int32), m))
    (fun n (z : Int32 × Int32 × gM) => z.1 = 1 ∧ z.2.1 = Int32.ofInt (56 - 8 * (n : Int)) ∧ bfR (apB bs (L, tx) n).1 (apB bs (L, tx) n).2 z.2.2 ∧ (∀ y, y ≠ 0 → y ≠ 2 → z.2.2 y = m y) ∧ ∀ f, f ≠ 5 → z.2.2 0 f = m 0 f)
    (fun (z : Int32 × Int32 × gM) => z.1 = 1 ∧ bfR (apB bs (L, tx) 8).1 (apB bs (L, tx) 8).2 z.2.2 ∧ (∀ y, y ≠ 0 → y ≠ 2 → z.2.2 y = m y) ∧ ∀ f, f ≠ 5 → z.2.2 0 f = m 0 f)
    (by omega) ⟨rfl, rfl, hb, fun _ _ _ => rfl, fun _ _ => rfl⟩ (fun n z hn hI => ?_) (fun z hI => ?_)
  · obtain ⟨k1, k2, k3, k4, k5⟩ := hL2
    unfold o_l_types f_l_types
    simp only [g_let_def]
    exact ⟨⟨k1, Or.inr k2, trivial⟩, k2, k3, k4, k5⟩
  · obtain ⟨z1, z2, zm⟩ := z
    obtain ⟨i1, i2, i3, i4, i5⟩ := hI
    dsimp only at i1 i2 i3 i4 i5
    subst i1
    subst i2
    obtain ⟨e8, nlt⟩ := kI8 n hn
    have n10 : ¬ ((1 : Int32) = 0) := by decide
    have hle := apB_le bs (L, tx) n
    dsimp only at hle
    unfold L_l_types_6 K_l_types_6
    simp only [g_let_def, if_neg nlt, hw n hn, if_neg n10, e8]
    rcases hbs n hn with q | ⟨q1, q2⟩
    · have q0 : Int32.ofNat (bs n) = 0 := by rw [q]; rfl
      simp only [if_pos q0]
      refine ⟨trivial, trivial, trivial, trivial, ?_, i4, i5⟩
      rw [show apB bs (L, tx) (n + 1) = apB bs (L, tx) n from if_pos q]
      exact i3
    · have q0 : ¬ (Int32.ofNat (bs n) = 0) := neL (b := 0) (by omega) (by omega) (by omega)
      obtain ⟨a1, a2, a3, a4, a5⟩ := append_b (c := bs n) i3 (by omega) q1 q2
      have a6 : ¬ ((f_h_append zm (Int32.ofNat (bs n))).1 ≤ 0) := by
        rw [a2]; exact fun w => by have := (leI (b := 0) (by omega) (by omega)).mp w; omega
      simp only [if_neg q0, if_neg a6]
      refine ⟨⟨a1, trivial⟩, trivial, trivial, trivial, ?_, fun y y0 y2 => by rw [a4 y y0 y2, i4 y y0 y2], fun f hf => by rw [a5 f hf, i5 f hf]⟩
      rw [show apB bs (L, tx) (n + 1) = ((apB bs (L, tx) n).1 + 1, fun i => if i = (apB bs (L, tx) n).1 then bs n else (apB bs (L, tx) n).2 i) from if_neg (by omega)]
      exact a3
  · obtain ⟨z1, z2, zm⟩ := z
    obtain ⟨i1, i2, i3, i4, i5⟩ := hI
    dsimp only at i1 i2 i3 i4 i5
    subst i1
    subst i2
    have lt : Int32.ofInt (56 - 8 * ((8 : Nat) : Int)) < 0 := by decide
    unfold L_l_types_6 K_l_types_6
    simp only [if_pos lt]
    exact ⟨trivial, trivial, trivial, i3, i4, i5⟩
/-! a whole text is written -/
theorem jQ_sel3 {c : Nat} {m m' : gM} {r : Nat → Int32} (h : jQ c (8 * c) (g_sel [4, 5, 6, 7, 8, 9, 10, 11, 12, 13, 14, 15, 16, 17, 18, 19] m) (vA r)) (he : ∀ y, 4 ≤ y → y < 20 → m' y = m y) : jQ c (8 * c) (g_sel [4, 5, 6, 7, 8, 9, 10, 11, 12, 13, 14, 15, 16, 17, 18, 19] m') (vA r) := by
  have h2 := selQi h
  exact selQ (hQ_cell (b := 4) (m := m) (fun j h1 h3 => he _ (by omega) (by omega)) (by rw [he 4 (by omega) (by omega)]) (by rw [he 4 (by omega) (by omega)]) (fun _ _ => rfl) h2)
theorem wall_A {L i cnt b f l h b' f' l' h' : Nat} {tx : Nat → Nat} {S : gM} (hb : bfR L tx S) (hr : rdR (g_sel [3] S) b f l h) (hv : vS b f l h) (hi : i < L) (hd : dst b f l h (tx i) = some (b', f', l', h')) (h1 : i + 1 ≠ L) (h2 : tx i ≠ 59) :
    K_h_writeAll_46 (Int32.ofNat cnt, Int32.ofNat i, S) ∧ ∃ S' : gM, L_h_writeAll_46 (Int32.ofNat cnt, Int32.ofNat i, S) = (true, (Int32.ofNat cnt, Int32.ofNat (i + 1), S')) ∧ rdR (g_sel [3] S') b' f' l' h' ∧ ∀ y, y ≠ 3 → S' y = S y := by
  obtain ⟨b1, b2, b3⟩ := hb
  have nle : ¬ (S 0 5 ≤ Int32.ofNat i) := by rw [b1]; exact fun q => by have := (leI (by omega) (by omega)).mp q; omega
  obtain ⟨c1, c2, c3⟩ := b3 i hi
  have z2i : S 2 (Int32.ofNat i).toNatClampNeg = Int32.ofNat (tx i) := by rw [nI_ix (by omega), c1]
  have vi := vp_in_nI (show i < 60 by omega) (show 60 < 2 ^ 31 by omega)
  obtain ⟨a1, a2⟩ := accepts_d hr hv (show tx i < 128 by omega)
  rcases a1 with ⟨y1, -⟩ | ⟨b3', f3, l3, h3, y1, y2, y3⟩
  · rw [hd] at y1; cases y1
  rw [hd] at y1
  obtain ⟨e5, e6, e7, e8⟩ := some4 y1
  rw [← e5, ← e6, ← e7, ← e8] at y3
  generalize hac : f_d_accepts (g_sel [3] S) (Int32.ofNat (tx i)) = Ac at *
  have hy5 : ∀ y, y ≠ 3 → g_mrg [3] S Ac.2 y = S y := (g_mrg3 S Ac.2).1
  have neL' : ¬ (Int32.ofNat (i + 1) = g_mrg [3] S Ac.2 0 5) := by rw [hy5 0 (by decide), b1]; exact neL (by omega) (by omega) h1
  have n59 : ¬ (g_mrg [3] S Ac.2 2 (Int32.ofNat i).toNatClampNeg = (59 : Int32)) := by rw [hy5 2 (by decide), z2i]; exact neL (b := 59) (by omega) (by omega) h2
  unfold L_h_writeAll_46 K_h_writeAll_46
  simp only [g_let_def, if_neg nle, z2i, hac, e1r, if_neg neL', if_neg n59]
  exact ⟨⟨vi, a2, vi, trivial⟩, _, rfl, rdR_of y3, hy5⟩
theorem wall_B {L i cnt b f l h b' f' l' h' c : Nat} {tx : Nat → Nat} {S : gM} {r : Nat → Int32} (hb : bfR L tx S) (hr : rdR (g_sel [3] S) b f l h) (hv : vS b f l h) (hi : i < L) (hd : dst b f l h (tx i) = some (b', f', l', h')) (h1 : i + 1 = L ∨ tx i = 59) (hfl : f' ≤ l') (hl : l' < 40) (hh : h' < 4) (hq : jQ c (8 * c) (g_sel [4, 5, 6, 7, 8, 9, 10, 11, 12, 13, 14, 15, 16, 17, 18, 19] S) (vA r)) (hc : c + 97 * 40 < 100000000) :
    K_h_writeAll_46 (Int32.ofNat cnt, Int32.ofNat i, S) ∧ ∃ S' : gM, L_h_writeAll_46 (Int32.ofNat cnt, Int32.ofNat i, S) = (true, (Int32.ofNat (cnt + (l' - f' + 1)), Int32.ofNat (i + 1), S')) ∧ rdR (g_sel [3] S') b' f' l' h' ∧ (∀ y, y ≠ 3 → ¬ (4 ≤ y ∧ y < 20) → S' y = S y) ∧ jQ (c + 97 * (l' - f' + 1)) (8 * (c + 97 * (l' - f' + 1))) (g_sel [4, 5, 6, 7, 8, 9, 10, 11, 12, 13, 14, 15, 16, 17, 18, 19] S') (vA (wrow h' r f' (l' - f' + 1))) := by
  obtain ⟨b1, b2, b3⟩ := hb
  have nle : ¬ (S 0 5 ≤ Int32.ofNat i) := by rw [b1]; exact fun q => by have := (leI (by omega) (by omega)).mp q; omega
  obtain ⟨c1, c2, c3⟩ := b3 i hi
  have z2i : S 2 (Int32.ofNat i).toNatClampNeg = Int32.ofNat (tx i) := by rw [nI_ix (by omega), c1]
  have vi := vp_in_nI (show i < 60 by omega) (show 60 < 2 ^ 31 by omega)
  obtain ⟨a1, a2⟩ := accepts_d hr hv (show tx i < 128 by omega)
  rcases a1 with ⟨y1, -⟩ | ⟨b3', f3, l3, h3, y1, y2, y3⟩
  · rw [hd] at y1; cases y1
  rw [hd] at y1
  obtain ⟨e5, e6, e7, e8⟩ := some4 y1
  rw [← e5, ← e6, ← e7, ← e8] at y3
  generalize hac : f_d_accepts (g_sel [3] S) (Int32.ofNat (tx i)) = Ac at *
  have hy5 : ∀ y, y ≠ 3 → g_mrg [3] S Ac.2 y = S y := (g_mrg3 S Ac.2).1
  have hq2 : jQ c (8 * c) (g_sel [4, 5, 6, 7, 8, 9, 10, 11, 12, 13, 14, 15, 16, 17, 18, 19] (g_mrg [3] S Ac.2)) (vA r) := jQ_sel3 hq (fun y y1 y2 => hy5 y (by omega))
  have g1 : g_mrg [3] S Ac.2 3 1 = Int32.ofNat f' := y3.2.1
  have g2 : g_mrg [3] S Ac.2 3 2 = Int32.ofNat l' := y3.2.2.1
  have g3 : g_mrg [3] S Ac.2 3 3 = Int32.ofNat h' := y3.2.2.2
  obtain ⟨k1, -, k2⟩ := writePagesQ (p := f') (k := l' - f' + 1) (h := h') hq2 (by omega) (by omega) hh hc
  rw [show f' + (l' - f' + 1) - 1 = l' by omega] at k1 k2
  have o3 : ∀ R : gM, (g_mrg [4, 5, 6, 7, 8, 9, 10, 11, 12, 13, 14, 15, 16, 17, 18, 19] (g_mrg [3] S Ac.2) R) 3 = g_mrg [3] S Ac.2 3 := fun R => mrg_out _ _ 3 (by omega)
  have esum : Int32.ofNat l' - Int32.ofNat f' + (1 : Int32) = Int32.ofNat (l' - f' + 1) := by
    rw [show Int32.ofNat l' = Int32.ofNat ((l' - f') + f') by rw [show (l' - f') + f' = l' by omega], subNN, e1r]
  have y3' : rdR (fun k => g_mrg [3] S Ac.2 3) b' f' l' h' := rdR_of y3
  have hrd : ∀ R : gM, rdR (g_sel [3] (g_mrg [4, 5, 6, 7, 8, 9, 10, 11, 12, 13, 14, 15, 16, 17, 18, 19] (g_mrg [3] S Ac.2) R)) b' f' l' h' := fun R => by
    have e : g_sel [3] (g_mrg [4, 5, 6, 7, 8, 9, 10, 11, 12, 13, 14, 15, 16, 17, 18, 19] (g_mrg [3] S Ac.2) R) 0 = g_mrg [3] S Ac.2 3 := o3 R
    unfold rdR; rw [e]; exact y3'
  have hout : ∀ (R : gM) y, y ≠ 3 → ¬ (4 ≤ y ∧ y < 20) → g_mrg [4, 5, 6, 7, 8, 9, 10, 11, 12, 13, 14, 15, 16, 17, 18, 19] (g_mrg [3] S Ac.2) R y = S y := fun R y q1 q2 => by rw [mrg_out _ _ y q2, hy5 y q1]
  by_cases w : i + 1 = L
  · have eL : Int32.ofNat (i + 1) = g_mrg [3] S Ac.2 0 5 := by rw [hy5 0 (by decide), b1, w]
    unfold L_h_writeAll_46 K_h_writeAll_46
    simp only [g_let_def, if_neg nle, z2i, hac, e1r, if_pos eL, g1, g2, g3, o3, esum, nI_plus2]
    exact ⟨⟨vi, a2, k1, trivial⟩, _, rfl, hrd _, hout _, selQ (mrgQ k2)⟩
  · have neL' : ¬ (Int32.ofNat (i + 1) = g_mrg [3] S Ac.2 0 5) := by rw [hy5 0 (by decide), b1]; exact neL (by omega) (by omega) w
    have w59 : tx i = 59 := by omega
    have e59 : g_mrg [3] S Ac.2 2 (Int32.ofNat i).toNatClampNeg = (59 : Int32) := by rw [hy5 2 (by decide), z2i, w59]; rfl
    unfold L_h_writeAll_46 K_h_writeAll_46
    simp only [g_let_def, if_neg nle, z2i, hac, e1r, if_neg neL', if_pos e59, g1, g2, g3, o3, esum, nI_plus2]
    exact ⟨⟨vi, a2, vi, k1, trivial⟩, _, rfl, hrd _, hout _, selQ (mrgQ k2)⟩
def stS4 (s : Nat × Nat × Nat × Nat) (x : Nat) : Option (Nat × Nat × Nat × Nat) := dst s.1 s.2.1 s.2.2.1 s.2.2.2 x
theorem wall_Q {c L : Nat} {tx : Nat → Nat} {m : gM} {rs : List (Nat → Int32)} {S : Nat → Nat × Nat × Nat × Nat} {T cc cnt : Nat → Nat} (hR : Rq c m (rwN (T 0)) rs) (hb : bfR L tx m) (hL : 0 < L)
    (h0 : S 0 = (0, 0, 0, 0)) (hc0 : cc 0 = c) (hn0 : cnt 0 = 0)
    (hs : ∀ n, n < L → stS4 (S n) (tx n) = some (S (n + 1)) ∧ cc n < 1000000 ∧ ((n + 1 ≠ L ∧ tx n ≠ 59 ∧ T (n + 1) = T n ∧ cc (n + 1) = cc n ∧ cnt (n + 1) = cnt n) ∨ ((n + 1 = L ∨ tx n = 59) ∧ (S (n + 1)).2.1 ≤ (S (n + 1)).2.2.1 ∧ (S (n + 1)).2.2.1 < 40 ∧ (S (n + 1)).2.2.2 < 4 ∧ wrN (S (n + 1)).2.2.2 (T n) (S (n + 1)).2.1 ((S (n + 1)).2.2.1 - (S (n + 1)).2.1 + 1) = T (n + 1) ∧ cc (n + 1) = cc n + 97 * ((S (n + 1)).2.2.1 - (S (n + 1)).2.1 + 1) ∧ cnt (n + 1) = cnt n + ((S (n + 1)).2.2.1 - (S (n + 1)).2.1 + 1))))
    (hd : drn tx (0, 0, 0, 0) 0 L = some (S L)) (hp : pW (S L).1 (S L).2.1 (S L).2.2.1) (hc9 : c ≤ cc L) :
    o_h_writeAll m ∧ (f_h_writeAll m).1 = Int32.ofNat (cnt L) ∧ Rq (cc L) (f_h_writeAll m).2 (rwN (T L)) (pus rs (rwN (T 0))) ∧ (f_h_writeAll m).2 0 5 = 0 := by
  obtain ⟨r1, r2, r3, r4⟩ := rb_at (i0 := L) (b0 := (S L).1) (f0 := (S L).2.1) (l0 := (S L).2.2.1) (h0 := (S L).2.2.2) hb (Nat.le_refl _) hd (Or.inl rfl)
  have hvL : vS (S L).1 (S L).2.1 (S L).2.2.1 (S L).2.2.2 := drn_vS _ _ vS_0 hd
  generalize eB : (f_h_readBuffer m).2 = B at *
  have hlen : B 0 5 = Int32.ofNat L := by rw [r4 0 (by decide)]; exact hb.1
  have nlt : ¬ (Int32.ofNat L < B 0 5) := by rw [hlen]; exact nltL (by have := hb.2.1; omega) (by have := hb.2.1; omega) (by omega)
  obtain ⟨pw1, pw2⟩ := partWhole_d r3 hvL.1 hvL.2.1 hvL.2.2.1
  have pw : f_d_isPartWhole (g_sel [3] B) = 1 := by
    rcases pw1 with ⟨-, q⟩ | ⟨q, -⟩
    · exact q
    · exact absurd hp q
  have npw : ¬ (f_d_isPartWhole (g_sel [3] B) = 0) := by rw [pw]; decide
  have hRB : Rq c B (rwN (T 0)) rs := Rq_same hR (fun x x1 x2 => r4 x (by omega)) (fun x x1 x2 => r4 x (by omega)) (by rw [r4 0 (by decide)])
  have hbB : bfR L tx B := ⟨hlen, hb.2.1, fun i hi => by rw [r4 2 (by decide)]; exact hb.2.2 i hi⟩
  obtain ⟨w1, w2, w3⟩ := saveQ hRB
  generalize eV : f_h_saveState B = V at *
  have hz := restart_d (g_sel [3] V)
  have hgm := g_mrg3 V (f_d_restart (g_sel [3] V))
  generalize eX : f_d_restart (g_sel [3] V) = X at *
  generalize eY : g_mrg [3] V X = Y at *
  have bY : bfR L tx Y := ⟨by rw [hgm.1 0 (by decide), w3.2 5 (by decide)]; exact hlen, hb.2.1, fun i hi => by rw [hgm.1 2 (by decide), w3.1 2 (by decide) (by decide)]; exact hbB.2.2 i hi⟩
  have rY : rdR (g_sel [3] Y) 0 0 0 0 := by
    refine ⟨?_, fun z => absurd rfl z⟩
    show Y 3 0 = Int32.ofNat 0
    rw [hgm.2, hz.1]; rfl
  have qY : jQ c (8 * c) (g_sel [4, 5, 6, 7, 8, 9, 10, 11, 12, 13, 14, 15, 16, 17, 18, 19] Y) (vA (rwN (T 0))) := jQ_sel3 (selQ w2.1) (fun y y1 y2 => hgm.1 y (by omega))
  have hrun := run_count (f := L_h_writeAll_46) (K := K_h_writeAll_46) (N := L) (fuel := 400) (z := ((0 : Int32), (0 : Int32), Y))
    (fun n (z : Int32 × Int32 × gM) => z.1 = Int32.ofNat (cnt n) ∧ z.2.1 = Int32.ofNat n ∧ rdR (g_sel [3] z.2.2) (S n).1 (S n).2.1 (S n).2.2.1 (S n).2.2.2 ∧ vS (S n).1 (S n).2.1 (S n).2.2.1 (S n).2.2.2 ∧ (∀ y, y ≠ 3 → ¬ (4 ≤ y ∧ y < 20) → z.2.2 y = Y y) ∧ jQ (cc n) (8 * cc n) (g_sel [4, 5, 6, 7, 8, 9, 10, 11, 12, 13, 14, 15, 16, 17, 18, 19] z.2.2) (vA (rwN (T n))))
    (fun (z : Int32 × Int32 × gM) => z.1 = Int32.ofNat (cnt L) ∧ (∀ y, y ≠ 3 → ¬ (4 ≤ y ∧ y < 20) → z.2.2 y = Y y) ∧ jQ (cc L) (8 * cc L) (g_sel [4, 5, 6, 7, 8, 9, 10, 11, 12, 13, 14, 15, 16, 17, 18, 19] z.2.2) (vA (rwN (T L))))
    (by have := hb.2.1; omega) ⟨by rw [hn0]; rfl, rfl, by rw [h0]; exact rY, by rw [h0]; exact vS_0, fun _ _ _ => rfl, by rw [hc0]; exact qY⟩ (fun n z hn hI => ?_) (fun z hI => ?_)
  · obtain ⟨k1, k2, k3, k4⟩ := hrun
    have hV4 : ∀ x, ¬ (4 ≤ x ∧ x < 20) → x ≠ 3 → (run L_h_writeAll_46 400 ((0 : Int32), (0 : Int32), Y)).2.2 x = V x := fun x x1 x2 => by rw [k3 x x2 x1, hgm.1 x x2]
    unfold o_h_writeAll f_h_writeAll
    simp only [g_let_def, r2, eB, if_neg nlt, if_neg npw, eV, eX, eY]
    generalize run L_h_writeAll_46 400 ((0 : Int32), (0 : Int32), Y) = F at *
    refine ⟨⟨r1, pw2, w1, hz.2, k1, trivial⟩, k2, ?_, by rw [g_set_s, upd_at, if_pos rfl]⟩
    have hF : ∀ x, x ≠ 0 → g_set F.2.2 0 (upd (F.2.2 0) 5 (0 : Int32)) x = F.2.2 x := fun x hx => g_set_n hx
    have qF : hQ (cc L) 4 (g_set F.2.2 0 (upd (F.2.2 0) 5 (0 : Int32))) (rwN (T L)) := selQi (jQ_sel3 k4 (fun y y1 y2 => hF y (by omega)))
    obtain ⟨-, v2, v3, v4⟩ := w2
    refine ⟨qF, ?_, v3, fun i f hf => ?_⟩
    · rw [g_set_s, upd_at, if_neg (by omega), hV4 0 (by omega) (by omega)]; exact v2
    · have hi := (List.getElem?_eq_some_iff.mp hf).1
      have hx : ∀ x, 20 ≤ x → g_set F.2.2 0 (upd (F.2.2 0) 5 (0 : Int32)) x = V x := fun x x1 => by rw [hF x (by omega), hV4 x (by omega) (by omega)]
      exact hQ_cell (b := 36 + 16 * i) (m := V) (r := f) (fun j j1 j2 => hx _ (by omega)) (by rw [hx _ (by omega)]) (by rw [hx _ (by omega)]) (fun _ _ => rfl) (hQ_up (v4 i f hf) hc9)
  · obtain ⟨z1, z2, zm⟩ := z
    obtain ⟨i1, i2, i3, i4, i5, i6⟩ := hI
    dsimp only at i1 i2 i3 i5 i6
    subst i1
    subst i2
    obtain ⟨s1, s2, s3⟩ := hs n hn
    have bz : bfR L tx zm := ⟨by rw [i5 0 (by omega) (by omega)]; exact bY.1, hb.2.1, fun i hi => by rw [i5 2 (by omega) (by omega)]; exact bY.2.2 i hi⟩
    have s1' : dst (S n).1 (S n).2.1 (S n).2.2.1 (S n).2.2.2 (tx n) = some ((S (n + 1)).1, (S (n + 1)).2.1, (S (n + 1)).2.2.1, (S (n + 1)).2.2.2) := s1
    have hv' := dst_vS i4 s1'
    rcases s3 with ⟨u1, u2, u3, u4, u5⟩ | ⟨u1, u2, u3, u4, u5, u6, u7⟩
    · obtain ⟨p1, S', p2, p3, p4⟩ := wall_A (cnt := cnt n) bz i3 i4 hn s1' u1 u2
      rw [p2, u5, u4, u3]
      exact ⟨p1, rfl, rfl, rfl, p3, hv', fun y y1 y2 => (p4 y y1).trans (i5 y y1 y2), jQ_sel3 i6 (fun y y1 y2 => p4 y (by omega))⟩
    · obtain ⟨p1, S', p2, p3, p4, p5⟩ := wall_B (cnt := cnt n) bz i3 i4 hn s1' u1 u2 u3 u4 i6 (by omega)
      rw [wrow_N, u5] at p5
      rw [p2, u6, u7]
      exact ⟨p1, rfl, rfl, rfl, p3, hv', fun y y1 y2 => (p4 y y1 y2).trans (i5 y y1 y2), p5⟩
  · obtain ⟨z1, z2, zm⟩ := z
    obtain ⟨i1, i2, i3, i4, i5, i6⟩ := hI
    dsimp only at i1 i2 i3 i5 i6
    subst i1
    subst i2
    have le : zm 0 5 ≤ Int32.ofNat L := by rw [i5 0 (by omega) (by omega), bY.1]; exact (leI (by have := hb.2.1; omega) (by have := hb.2.1; omega)).mpr (Nat.le_refl _)
    unfold L_h_writeAll_46 K_h_writeAll_46
    simp only [if_pos le]
    exact ⟨trivial, trivial, trivial, i5, i6⟩
theorem wall_X {L i0 b0 f0 l0 h0 : Nat} {tx : Nat → Nat} {m : gM} (hb : bfR L tx m) (hi : i0 ≤ L) (h1 : drn tx (0, 0, 0, 0) 0 i0 = some (b0, f0, l0, h0)) (h2 : i0 = L ∨ dst b0 f0 l0 h0 (tx i0) = none) (hp : ¬ pW b0 f0 l0) :
    ox_h_writeAll m ∧ (fx_h_writeAll m).1 = "java/lang/IllegalArgumentException" ∧ ∀ c, c ≠ 3 → (fx_h_writeAll m).2 c = m c := by
  obtain ⟨r1, r2, r3, r4⟩ := rb_at hb hi h1 h2
  have hvL := drn_vS _ _ vS_0 h1
  generalize eB : (f_h_readBuffer m).2 = B at *
  obtain ⟨pw1, pw2⟩ := partWhole_d r3 hvL.1 hvL.2.1 hvL.2.2.1
  have pw : f_d_isPartWhole (g_sel [3] B) = 0 := by
    rcases pw1 with ⟨q, -⟩ | ⟨-, q⟩
    · exact absurd q hp
    · exact q
  unfold ox_h_writeAll fx_h_writeAll
  simp only [g_let_def, r2, eB, pw, if_true]
  by_cases w : Int32.ofNat i0 < B 0 5
  · simp only [if_pos w]
    exact ⟨⟨r1, trivial⟩, trivial, r4⟩
  · simp only [if_neg w]
    exact ⟨⟨r1, pw2, trivial⟩, trivial, r4⟩
