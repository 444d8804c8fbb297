/-! what the calls do, by the rows alone -/
/-- rows as the reference's picture of one row -/
def m0 (r : Nat → Int32) : gM := fun _ => r
theorem aR_m0 (r : Nat → Int32) : aR (m0 r) = vA r := rfl
theorem vA_13 (r : Nat → Int32) {i : Nat} (hi : i < 6) : vA r 13 i = r (358 + i) := by
  show (if i < fL 13 then r (fB 13 + fS 13 * i) else 0) = _
  rw [if_pos (show i < fL 13 from hi), show fB 13 + fS 13 * i = 358 + i from by show 358 + 1 * i = _; omega]
theorem vA_1 (r : Nat → Int32) {p : Nat} (hp : p < 40) : vA r 1 p = r (144 + 5 * p) := by
  show (if p < fL 1 then r (fB 1 + fS 1 * p) else 0) = _
  rw [if_pos (show p < fL 1 from hp)]; rfl
theorem vA_2 (r : Nat → Int32) {p : Nat} (hp : p < 40) : vA r 2 p = r (145 + 5 * p) := by
  show (if p < fL 2 then r (fB 2 + fS 2 * p) else 0) = _
  rw [if_pos (show p < fL 2 from hp)]; rfl
theorem vA_6 (r : Nat → Int32) {b : Nat} (hb : b < 12) : vA r 6 b = r (96 + b) := by
  show (if b < fL 6 then r (fB 6 + fS 6 * b) else 0) = _
  rw [if_pos (show b < fL 6 from hb), show fB 6 + fS 6 * b = 96 + b from by show 96 + 1 * b = _; omega]
theorem nI_ge0 {n : Nat} (h : n < 2147483648) : ¬ (Int32.ofNat n < 0) := fun w => by have := (ltI (b := 0) h (by omega)).mp w; omega
/-- a row's places alone -/
def cl (f : Nat → Int32) : Nat → Int32 := fun j => if j < 364 then f j else 0
theorem cl_at (f : Nat → Int32) {j : Nat} (h : j < 364) : cl f j = f j := if_pos h
theorem vA_cl (f : Nat → Int32) : vA (cl f) = vA f := vA_c (fun _ hk => cl_at f hk)
/-- the row after k pages in a row -/
noncomputable def wrow (h : Nat) (r : Nat → Int32) (p : Nat) : Nat → Nat → Int32
  | 0 => r
  | k + 1 => cl ((f_r_writes (m0 (wrow h r p k)) (Int32.ofNat (p + k)) (Int32.ofNat h)).2 0)
theorem vA_wrow (h : Nat) (r : Nat → Int32) (p k : Nat) : vA (wrow h r p (k + 1)) = aR (f_r_writes (m0 (wrow h r p k)) (Int32.ofNat (p + k)) (Int32.ofNat h)).2 := vA_cl _
/-- so many copies at most by one page -/
theorem writes_x {mr A m : gM} {e t p h : Nat} (hr : aR mr = A) (hQ : jQ e t m A) (he : e + 97 < 100000000) (ht : t + 776 < 800000000) : ∃ x, x ≤ 768 ∧ (f_r_writes mr (Int32.ofNat p) (Int32.ofNat h)).1 = Int32.ofNat x := by
  obtain ⟨hR, hV, hW, hF⟩ := hQ
  have hs : ∃ many, many ≤ 4 ∧ A 13 1 = Int32.ofNat many := by
    obtain ⟨-, -, -, -, -, -, -, -, -, -, s | s | s⟩ := hV
    · exact ⟨2, by omega, s⟩
    · exact ⟨3, by omega, s⟩
    · exact ⟨4, by omega, s⟩
  obtain ⟨many, hm4, hmA⟩ := hs
  have hmr : mr 0 (359 : Int32).toNatClampNeg = Int32.ofNat many := by rw [rg13_1 (m := mr), hr, hmA]
  obtain ⟨-, -, c, x, k3, -, k5, -, -, k8, -⟩ := frees_RS (mr := mr) (many := many) hr hR hV (by omega) hF he ht
  obtain ⟨-, -, -, -, -, m9⟩ := k8
  refine ⟨x, by omega, ?_⟩
  unfold f_r_writes
  simp only [g_let_def, hmr]
  exact k5
theorem sub_same2 (a b : Int32) : a + b - a = b := by rw [Int32.add_comm, Int32.add_sub_cancel]
theorem writePagesQ {c p k h : Nat} {m : gM} {r : Nat → Int32} (h0 : jQ c (8 * c) m (vA r)) (hk1 : 1 ≤ k) (hpk : p + k ≤ 40) (hh : h < 4) (hc : c + 97 * 40 < 100000000) :
    o_s_writePages m (Int32.ofNat p) (Int32.ofNat (p + k - 1)) (Int32.ofNat h) ∧ (∃ x, x ≤ 768 * k ∧ (f_s_writePages m (Int32.ofNat p) (Int32.ofNat (p + k - 1)) (Int32.ofNat h)).1 = Int32.ofNat x ∧ wrow h r p k 361 = r 361 + Int32.ofNat x) ∧ jQ (c + 97 * k) (8 * (c + 97 * k)) (f_s_writePages m (Int32.ofNat p) (Int32.ofNat (p + k - 1)) (Int32.ofNat h)).2 (vA (wrow h r p k)) := by
  have e13 : ∀ q : Nat → Int32, vA q 13 3 = q 361 := fun q => vA_13 q (by omega)
  have hL := run_wf (f := L_s_writePages_9 (Int32.ofNat p) (Int32.ofNat (p + k - 1)) (Int32.ofNat h) (f_s_copies m)) (K := K_s_writePages_9 (Int32.ofNat p) (Int32.ofNat (p + k - 1)) (Int32.ofNat h) (f_s_copies m)) (fuel := 400) (z := (Int32.ofNat p, m))
    (fun z => ∃ i x, i ≤ k ∧ x ≤ 768 * i ∧ z.1 = Int32.ofNat (p + i) ∧ jQ (c + 97 * i) (8 * (c + 97 * i)) z.2 (vA (wrow h r p i)) ∧ wrow h r p i 361 = r 361 + Int32.ofNat x)
    (fun z => 40 - z.1.toNatClampNeg)
    (fun z => ∃ x, x ≤ 768 * k ∧ jQ (c + 97 * k) (8 * (c + 97 * k)) z.2 (vA (wrow h r p k)) ∧ wrow h r p k 361 = r 361 + Int32.ofNat x)
    ⟨0, 0, by omega, by omega, rfl, h0, (Int32.add_zero _).symm⟩ (by dsimp only; rw [nI_ix (by omega)]; omega) (fun z hI => ?_)
  · obtain ⟨a1, x, a2, a3, a4⟩ := hL
    have c1 := copies_of h0
    have c2 := copies_of a3
    unfold f_s_writePages o_s_writePages
    simp only [g_let_def]
    refine ⟨⟨trivial, a1, trivial, trivial⟩, ⟨x, a2, ?_, a4⟩, a3⟩
    rw [c2, c1, e13, e13, a4, sub_same2]
  · obtain ⟨z1, z2⟩ := z
    obtain ⟨i, x, hi, hx, hz1, hq, h13⟩ := hI
    dsimp only at hz1 hq
    subst hz1
    by_cases hik : i < k
    · have hp : p + i < 40 := by omega
      have n1 : ¬ (Int32.ofNat (p + k - 1) < Int32.ofNat (p + i)) := fun w => by have := (ltI (by omega) (by omega)).mp w; omega
      obtain ⟨k1, k2, x', k3, k4, q1, q2, q3, q4, q5⟩ := writes_RS (mr := m0 (wrow h r p i)) (aR_m0 _) hq hp hh (by omega) (by omega)
      obtain ⟨x9, hx9, ex9⟩ := writes_x (p := p + i) (h := h) (mr := m0 (wrow h r p i)) (aR_m0 _) hq (by omega) (by omega)
      obtain ⟨s1, s2⟩ := wp_step (m := z2) (x1 := Int32.ofNat p) (x3 := Int32.ofNat h) (x4 := f_s_copies m) hp n1
      rw [s1, s2]
      refine ⟨⟨k2, trivial⟩, fun _ => ⟨⟨i + 1, x + x9, by omega, by omega, by rw [show p + i + 1 = p + (i + 1) by omega], ?_, ?_⟩, ?_⟩, (fun w => by cases w)⟩
      · rw [show c + 97 * (i + 1) = c + 97 * i + 97 by omega, show 8 * (c + 97 * i + 97) = 8 * (c + 97 * i) + 776 by omega, vA_wrow]
        exact k4
      · have e1 : vA (wrow h r p (i + 1)) 13 3 = vA (wrow h r p i) 13 3 + Int32.ofNat x' := by rw [vA_wrow]; exact q4
        rw [e13, e13, h13] at e1
        have e2 : Int32.ofNat x' = Int32.ofNat x9 := k3.symm.trans ex9
        rw [e1, e2, Int32.add_assoc, nI_plus2]
      · dsimp only; rw [nI_ix (by omega), nI_ix (by omega)]; omega
    · have hik : i = k := by omega
      subst hik
      have n2 : Int32.ofNat (p + i - 1) < Int32.ofNat (p + i) := (ltI (by omega) (by omega)).mpr (by omega)
      obtain ⟨s3, s4⟩ := wp_end (m := z2) (x1 := Int32.ofNat p) (x3 := Int32.ofNat h) (x4 := f_s_copies m) n2
      rw [s3, s4]
      exact ⟨trivial, (fun w => by cases w), fun _ => ⟨x, hx, hq, h13⟩⟩
theorem isIn_y {N : Nat} {M : Int32} (x : Nat) (hx : x < N) (hN : N < 1000) (hM : M = Int32.ofNat N) : ¬ (f_h_isIn (Int32.ofNat x) M = 0) := by
  have h1 : ¬ (Int32.ofNat x < 0) := nI_ge0 (by omega)
  have h2 : ¬ (M ≤ Int32.ofNat x) := by rw [hM, leI (by omega) (by omega)]; omega
  unfold f_h_isIn
  rw [if_neg h1, if_neg h2]; decide
theorem writeQ {c p h : Nat} {mh : gM} {r : Nat → Int32} {rs : List (Nat → Int32)} (hR : Rq c mh r rs) (hp : p < 40) (hh : h < 4) (hc : c + 97 * 40 < 100000000) :
    o_h_write mh (Int32.ofNat p) (Int32.ofNat h) ∧ (∃ x, x ≤ 768 ∧ (f_h_write mh (Int32.ofNat p) (Int32.ofNat h)).1 = Int32.ofNat x ∧ wrow h r p 1 361 = r 361 + Int32.ofNat x) ∧ Rq (c + 97) (f_h_write mh (Int32.ofNat p) (Int32.ofNat h)).2 (wrow h r p 1) (pus rs r) ∧ ∀ f, f ≠ 3 → (f_h_write mh (Int32.ofNat p) (Int32.ofNat h)).2 0 f = mh 0 f := by
  have u0 := isIn_y (M := 40) p hp (by omega) rfl
  have u1 := isIn_y (M := 4) h hh (by omega) rfl
  obtain ⟨w1, w2, w3⟩ := saveQ hR
  generalize eS : f_h_saveState mh = S at *
  obtain ⟨k2, ⟨x, x1, x2, x3⟩, k4⟩ := writePagesQ (k := 1) (selQ w2.1) (Nat.le_refl _) (show p + 1 ≤ 40 by omega) hh hc
  rw [show p + 1 - 1 = p by omega] at k2 x2 k4
  unfold o_h_write f_h_write
  simp only [g_let_def, if_neg u0, if_neg u1, eS]
  refine ⟨⟨o_isIn _ _, o_isIn _ _, w1, k2, trivial⟩, ⟨x, by omega, x2, x3⟩, doneQ w2 (by omega) (mrgQ k4) (mrg_out _ _), fun f hf => ?_⟩
  rw [mrg_out _ _ 0 (by omega)]; exact w3.2 f hf
theorem writeRowQ {c p k h : Nat} {mh : gM} {r : Nat → Int32} {rs : List (Nat → Int32)} (hR : Rq c mh r rs) (hk1 : 1 ≤ k) (hpk : p + k ≤ 40) (hh : h < 4) (hc : c + 97 * 40 < 100000000) :
    o_h_writeRow mh (Int32.ofNat p) (Int32.ofNat k) (Int32.ofNat h) ∧ (∃ x, x ≤ 768 * k ∧ (f_h_writeRow mh (Int32.ofNat p) (Int32.ofNat k) (Int32.ofNat h)).1 = Int32.ofNat x ∧ wrow h r p k 361 = r 361 + Int32.ofNat x) ∧ Rq (c + 97 * k) (f_h_writeRow mh (Int32.ofNat p) (Int32.ofNat k) (Int32.ofNat h)).2 (wrow h r p k) (pus rs r) ∧ ∀ f, f ≠ 3 → (f_h_writeRow mh (Int32.ofNat p) (Int32.ofNat k) (Int32.ofNat h)).2 0 f = mh 0 f := by
  have u0 := isIn_y (M := 40) p (show p < 40 by omega) (by omega) rfl
  have u1 := isIn_y (M := 4) h hh (by omega) rfl
  have c1 : ¬ (Int32.ofNat k < (1 : Int32)) := fun w => by have := (ltI (b := 1) (by omega) (by omega)).mp w; omega
  have e40 : (40 : Int32) - Int32.ofNat p = Int32.ofNat (40 - p) := by
    rw [show (40 : Int32) = Int32.ofNat ((40 - p) + p) from by rw [Nat.sub_add_cancel (by omega)]; rfl]
    exact subNN _ _
  have c2 : Int32.ofNat k ≤ (40 : Int32) - Int32.ofNat p := by rw [e40, leI (by omega) (by omega)]; omega
  have el : Int32.ofNat p + Int32.ofNat k - (1 : Int32) = Int32.ofNat (p + k - 1) := by rw [nI_plus2, show p + k = (p + k - 1) + 1 by omega]; exact nI_pred _
  obtain ⟨w1, w2, w3⟩ := saveQ hR
  generalize eS : f_h_saveState mh = S at *
  obtain ⟨k2, ⟨x, x1, x2, x3⟩, k4⟩ := writePagesQ (selQ w2.1) hk1 hpk hh hc
  unfold o_h_writeRow f_h_writeRow
  simp only [g_let_def, if_neg u0, if_neg c1, if_pos c2, if_neg u1, el, eS]
  refine ⟨⟨o_isIn _ _, o_isIn _ _, w1, k2, trivial⟩, ⟨x, x1, x2, x3⟩, doneQ w2 (by omega) (mrgQ k4) (mrg_out _ _), fun f hf => ?_⟩
  rw [mrg_out _ _ 0 (by omega)]; exact w3.2 f hf
/-- a trimmed page's row -/
def trow (r : Nat → Int32) (p : Nat) : Nat → Int32 := upd (upd (upd r (144 + 5 * p) (-1)) (145 + 5 * p) (-1)) (148 + 5 * p) 0
theorem vA_trow (r : Nat → Int32) {p : Nat} (hp : p < 40) : vA (trow r p) = sIn (sIn (sIn (vA r) 1 p (-1)) 2 p (-1)) 5 p 0 := by
  unfold trow
  rw [show 144 + 5 * p = fB 1 + fS 1 * p from rfl, show 145 + 5 * p = fB 2 + fS 2 * p from rfl, show 148 + 5 * p = fB 5 + fS 5 * p from rfl, vA_upd _ _ (show p < fL 5 from hp), vA_upd _ _ (show p < fL 2 from hp), vA_upd _ _ (show p < fL 1 from hp)]
  rfl
theorem trimQ {c p : Nat} {mh : gM} {r : Nat → Int32} {rs : List (Nat → Int32)} (hR : Rq c mh r rs) (hp : p < 40) :
    o_h_trim mh (Int32.ofNat p) ∧ (f_h_trim mh (Int32.ofNat p)).1 = (if r (144 + 5 * p) = -1 then -1 else r (144 + 5 * p) / 8) ∧ Rq c (f_h_trim mh (Int32.ofNat p)).2 (trow r p) (pus rs r) ∧ ∀ f, f ≠ 3 → (f_h_trim mh (Int32.ofNat p)).2 0 f = mh 0 f := by
  have u0 := isIn_y (M := 40) p hp (by omega) rfl
  obtain ⟨w1, w2, w3⟩ := saveQ hR
  generalize eS : f_h_saveState mh = S at *
  have hq := selQ w2.1
  obtain ⟨b1, b2⟩ := blockOf_S hq.1 hp
  obtain ⟨k1, k2⟩ := forget_RS hq hp
  rw [← vA_trow r hp] at k1
  rw [vA_1 r hp] at b1
  unfold o_h_trim f_h_trim
  simp only [g_let_def, if_neg u0, eS]
  refine ⟨⟨o_isIn _ _, w1, b2, k2, trivial⟩, b1, doneQ w2 (Nat.le_refl _) (mrgQ k1) (mrg_out _ _), fun f hf => ?_⟩
  rw [mrg_out _ _ 0 (by omega)]; exact w3.2 f hf
theorem sel_hit {S : gM} {A' : gM} {c k : Nat} {f : Nat → Int32} {r' : Nat → Int32} (hk1 : 1 ≤ k) (hk2 : k < 16) (hA : vA r' = A') (h : jQ c (8 * c) (g_set (g_sel [4, 5, 6, 7, 8, 9, 10, 11, 12, 13, 14, 15, 16, 17, 18, 19] S) k f) A') : hQ c 4 (g_set S (4 + k) f) r' := by
  subst hA
  refine ⟨jR_cell (m := g_set (g_sel [4, 5, 6, 7, 8, 9, 10, 11, 12, 13, 14, 15, 16, 17, 18, 19] S) k f) (fun j z1 z2 => ?_) ?_ ?_ h.1, h.2⟩
  · have e4 : ∀ i, i < 16 → g_sel [4, 5, 6, 7, 8, 9, 10, 11, 12, 13, 14, 15, 16, 17, 18, 19] S i = S (4 + i) := fun i hi => by
      match i, hi with
      | 0, _ => rfl
      | 1, _ => rfl
      | 2, _ => rfl
      | 3, _ => rfl
      | 4, _ => rfl
      | 5, _ => rfl
      | 6, _ => rfl
      | 7, _ => rfl
      | 8, _ => rfl
      | 9, _ => rfl
      | 10, _ => rfl
      | 11, _ => rfl
      | 12, _ => rfl
      | 13, _ => rfl
      | 14, _ => rfl
      | 15, _ => rfl
      | n + 16, z => omega
    show g_set S (4 + k) f (4 + j) = g_set (g_sel [4, 5, 6, 7, 8, 9, 10, 11, 12, 13, 14, 15, 16, 17, 18, 19] S) k f j
    rw [g_set_at, g_set_at]
    by_cases w : j = k
    · rw [if_pos w, if_pos (by omega)]
    · rw [if_neg w, if_neg (by omega), e4 j z2]
  · show g_set S (4 + k) f 4 15 = g_set (g_sel [4, 5, 6, 7, 8, 9, 10, 11, 12, 13, 14, 15, 16, 17, 18, 19] S) k f 0 15
    rw [g_set_n (by omega), g_set_n (by omega)]; rfl
  · show g_set S (4 + k) f 4 16 = g_set (g_sel [4, 5, 6, 7, 8, 9, 10, 11, 12, 13, 14, 15, 16, 17, 18, 19] S) k f 0 16
    rw [g_set_n (by omega), g_set_n (by omega)]; rfl
/-- another hint's row -/
def hrow (r : Nat → Int32) (p h : Nat) : Nat → Int32 := upd r (145 + 5 * p) (Int32.ofNat h)
theorem vA_hrow (r : Nat → Int32) {p h : Nat} (hp : p < 40) : vA (hrow r p h) = sIn (vA r) 2 p (Int32.ofNat h) := by
  unfold hrow
  rw [show 145 + 5 * p = fB 2 + fS 2 * p from rfl, vA_upd _ _ (show p < fL 2 from hp)]
  rfl
theorem hintQ {c p h : Nat} {mh : gM} {r : Nat → Int32} {rs : List (Nat → Int32)} (hR : Rq c mh r rs) (hp : p < 40) (hh : h < 4) (hz : ¬ (r (144 + 5 * p) = -1)) :
    o_h_hint mh (Int32.ofNat p) (Int32.ofNat h) ∧ (f_h_hint mh (Int32.ofNat p) (Int32.ofNat h)).1 = r (145 + 5 * p) ∧ (∃ x, x < 4 ∧ r (145 + 5 * p) = Int32.ofNat x) ∧ Rq c (f_h_hint mh (Int32.ofNat p) (Int32.ofNat h)).2 (hrow r p h) (pus rs r) ∧ ∀ f, f ≠ 3 → (f_h_hint mh (Int32.ofNat p) (Int32.ofNat h)).2 0 f = mh 0 f := by
  have u0 := isIn_y (M := 40) p hp (by omega) rfl
  have u1 := isIn_y (M := 4) h hh (by omega) rfl
  have hq0 := selQ hR.1
  obtain ⟨x1, x2⟩ := isWritten_S hq0.1 hp
  have hz1 : ¬ (vA r 1 p = -1) := by rw [vA_1 r hp]; exact hz
  rw [if_neg hz1] at x1
  have x3 : ¬ (f_s_isWritten (g_sel [4, 5, 6, 7, 8, 9, 10, 11, 12, 13, 14, 15, 16, 17, 18, 19] mh) (Int32.ofNat p) = 0) := by rw [x1]; decide
  obtain ⟨w1, w2, w3⟩ := saveQ hR
  generalize eS : f_h_saveState mh = S at *
  have hq := selQ w2.1
  obtain ⟨hd, hhd, ehd⟩ := (hq.2.1.2.2.1 p hp).1 hz1
  have hS6 : S 6 p = vA r 2 p := (hq.1.1 p hp).2.1 (by rw [ehd]; exact nI_ne1 (by omega))
  rw [vA_2 r hp] at hS6 ehd
  have k1 := hint_RS hq hp hh hz1
  have k2 := sel_hit (k := 2) (by omega) (by omega) (vA_hrow r hp) k1
  have k3 : hQ c 4 (g_set S 6 (upd (S 6) p (Int32.ofNat h))) (hrow r p h) := k2
  have ip := nI_ix (show p < 2147483648 by omega)
  have vp := vp_in_nI hp (show 40 < 2 ^ 31 by omega)
  unfold o_h_hint f_h_hint
  simp only [g_let_def, if_neg u0, if_neg u1, if_neg x3, ip, eS]
  refine ⟨⟨o_isIn _ _, o_isIn _ _, x2, w1, vp, vp, trivial⟩, hS6, ⟨hd, hhd, ehd⟩, doneQ w2 (Nat.le_refl _) k3 (fun x hx => g_set_n (by omega)), fun f hf => ?_⟩
  rw [g_set_n (by omega)]; exact w3.2 f hf
theorem hintX {c p h : Nat} {mh : gM} {r : Nat → Int32} {rs : List (Nat → Int32)} (hR : Rq c mh r rs) (hp : p < 40) (hh : h < 4) (hz : r (144 + 5 * p) = -1) :
    ox_h_hint mh (Int32.ofNat p) (Int32.ofNat h) ∧ fx_h_hint mh (Int32.ofNat p) (Int32.ofNat h) = "java/lang/IllegalStateException" := by
  have u0 := isIn_y (M := 40) p hp (by omega) rfl
  have u1 := isIn_y (M := 4) h hh (by omega) rfl
  obtain ⟨x1, x2⟩ := isWritten_S (selQ hR.1).1 hp
  have hz1 : vA r 1 p = -1 := by rw [vA_1 r hp]; exact hz
  rw [if_pos hz1] at x1
  unfold ox_h_hint fx_h_hint
  simp only [if_neg u0, if_neg u1, if_pos x1]
  exact ⟨⟨o_isIn _ _, o_isIn _ _, x2, trivial⟩, trivial⟩
theorem collectQ {c b : Nat} {mh : gM} {r : Nat → Int32} {rs : List (Nat → Int32)} (hR : Rq c mh r rs) (hb : b < 12) (hz : r (96 + b) = 2) (hc : c + 97 * 40 < 100000000) :
    o_h_collect mh (Int32.ofNat b) ∧ (∃ x, x ≤ 8 ∧ (f_h_collect mh (Int32.ofNat b)).1 = Int32.ofNat x ∧ (f_r_collects (m0 r) (Int32.ofNat b)).2 0 361 = r 361 + Int32.ofNat x) ∧ Rq (c + 97) (f_h_collect mh (Int32.ofNat b)).2 ((f_r_collects (m0 r) (Int32.ofNat b)).2 0) (pus rs r) ∧ ∀ f, f ≠ 3 → (f_h_collect mh (Int32.ofNat b)).2 0 f = mh 0 f := by
  have u0 := isIn_y (M := 12) b hb (by omega) rfl
  have hq0 := selQ hR.1
  have hz6 : vA r 6 b = 2 := by rw [vA_6 r hb]; exact hz
  obtain ⟨x1, x2⟩ := stateOf_S hq0.1 hq0.2.1 hb
  rw [hz6] at x1
  obtain ⟨w1, w2, w3⟩ := saveQ hR
  generalize eS : f_h_saveState mh = S at *
  have hq := selQ w2.1
  obtain ⟨k1, k2, d, k3, k4, k5, k6⟩ := collects_RS (mr := m0 r) (aR_m0 r) hq.1 hq.2.1 hb hz6 hq.2.2.2 (by omega)
  have k7 := jT_M hq.2 (jV_up k5 (by omega) (by omega)) (jM_step (jM_0 hq.2.2.2) hb k6) (by omega)
  have k8 : jQ (c + 97) (8 * (c + 97)) (f_s_collectBlock (g_sel [4, 5, 6, 7, 8, 9, 10, 11, 12, 13, 14, 15, 16, 17, 18, 19] S) (Int32.ofNat b)) (vA ((f_r_collects (m0 r) (Int32.ofNat b)).2 0)) := jQ_up ⟨k4, k7⟩ (by omega) (by omega)
  have e2 : f_s_copies (g_sel [4, 5, 6, 7, 8, 9, 10, 11, 12, 13, 14, 15, 16, 17, 18, 19] S) = vA r 11 4 := (hq.1.2.2.2.1 4 (by omega)).2
  have hQF := mrgQ (z := S) k8
  have e1 : f_s_copies (g_sel [4, 5, 6, 7, 8, 9, 10, 11, 12, 13, 14, 15, 16, 17, 18, 19] (g_mrg [4, 5, 6, 7, 8, 9, 10, 11, 12, 13, 14, 15, 16, 17, 18, 19] S (f_s_collectBlock (g_sel [4, 5, 6, 7, 8, 9, 10, 11, 12, 13, 14, 15, 16, 17, 18, 19] S) (Int32.ofNat b)))) = vA r 11 4 + Int32.ofNat d := by
    rw [← k6.2.1]; exact ((selQ hQF).1.2.2.2.1 4 (by omega)).2
  have hd8 : d ≤ 8 := by
    have := k6.2.2.2.2.2.2
    have := vL_le (vA r) b
    have := cN_le (vA r) b
    omega
  have e3 : (f_r_collects (m0 r) (Int32.ofNat b)).2 0 361 = r 361 + Int32.ofNat d := by
    have h3 := k6.1.2.2.2.1
    have h4 : vA ((f_r_collects (m0 r) (Int32.ofNat b)).2 0) 13 3 = vA r 13 3 + Int32.ofNat d := h3
    rw [vA_13 _ (by omega), vA_13 _ (by omega)] at h4
    exact h4
  unfold o_h_collect f_h_collect
  simp only [g_let_def, if_neg u0, if_pos x1, eS]
  refine ⟨⟨o_isIn _ _, x2, w1, trivial, k2, trivial, trivial⟩, ⟨d, hd8, ?_, e3⟩, doneQ w2 (by omega) hQF (mrg_out _ _), fun f hf => ?_⟩
  · rw [e1, e2, sub_same2]
  · rw [mrg_out _ _ 0 (by omega)]; exact w3.2 f hf
theorem collectX {c b : Nat} {mh : gM} {r : Nat → Int32} {rs : List (Nat → Int32)} (hR : Rq c mh r rs) (hb : b < 12) (hz : ¬ (r (96 + b) = 2)) :
    ox_h_collect mh (Int32.ofNat b) ∧ fx_h_collect mh (Int32.ofNat b) = "java/lang/IllegalStateException" := by
  have u0 := isIn_y (M := 12) b hb (by omega) rfl
  have hq0 := selQ hR.1
  obtain ⟨x1, x2⟩ := stateOf_S hq0.1 hq0.2.1 hb
  have x3 : ¬ (f_s_stateOf (g_sel [4, 5, 6, 7, 8, 9, 10, 11, 12, 13, 14, 15, 16, 17, 18, 19] mh) (Int32.ofNat b) = 2) := by rw [x1, vA_6 r hb]; exact hz
  unfold ox_h_collect fx_h_collect
  simp only [if_neg u0, if_neg x3]
  exact ⟨⟨o_isIn _ _, x2, trivial⟩, trivial⟩
theorem tidyQ {c k : Nat} {mh : gM} {r : Nat → Int32} {rs : List (Nat → Int32)} (hR : Rq c mh r rs) (hk1 : 1 ≤ k) (hk2 : k ≤ 12) (hc : c + 97 * 40 < 100000000) :
    o_h_tidy mh (Int32.ofNat k) ∧ (∃ x, x ≤ 96 ∧ (f_h_tidy mh (Int32.ofNat k)).1 = Int32.ofNat x ∧ (f_r_frees (m0 r) (Int32.ofNat k)).2 0 362 = r 362 + Int32.ofNat x) ∧ Rq (c + 97) (f_h_tidy mh (Int32.ofNat k)).2 ((f_r_frees (m0 r) (Int32.ofNat k)).2 0) (pus rs r) ∧ ∀ f, f ≠ 3 → (f_h_tidy mh (Int32.ofNat k)).2 0 f = mh 0 f := by
  have c1 : ¬ (Int32.ofNat k < (1 : Int32)) := fun w => by have := (ltI (b := 1) (by omega) (by omega)).mp w; omega
  have c2 : Int32.ofNat k ≤ (12 : Int32) := (leI (b := 12) (by omega) (by omega)).mpr hk2
  obtain ⟨w1, w2, w3⟩ := saveQ hR
  generalize eS : f_h_saveState mh = S at *
  have hq := selQ w2.1
  obtain ⟨k1, k2, n, x, k3, k4, k5, k6, k7, k8, -⟩ := frees_RS (mr := m0 r) (many := k) (aR_m0 r) hq.1 hq.2.1 (by omega) hq.2.2.2 (by omega) (by omega)
  have k9 := jT_M hq.2 k7 k8 k3
  have k10 : jQ (c + 97) (8 * (c + 97)) (f_s_collectVictims (g_sel [4, 5, 6, 7, 8, 9, 10, 11, 12, 13, 14, 15, 16, 17, 18, 19] S) (Int32.ofNat k)).2 (vA ((f_r_frees (m0 r) (Int32.ofNat k)).2 0)) := jQ_up ⟨k6, k9⟩ (by omega) (by omega)
  have e3 : (f_r_frees (m0 r) (Int32.ofNat k)).2 0 362 = r 362 + Int32.ofNat n := by
    have h3 := k8.1.2.2.2.2
    have h4 : vA ((f_r_frees (m0 r) (Int32.ofNat k)).2 0) 13 4 = vA r 13 4 + Int32.ofNat n := h3
    rw [vA_13 _ (by omega), vA_13 _ (by omega)] at h4
    exact h4
  unfold o_h_tidy f_h_tidy
  simp only [g_let_def, if_neg c1, if_pos c2, eS]
  refine ⟨⟨w1, k2, trivial⟩, ⟨n, k3, k4, e3⟩, doneQ w2 (by omega) (mrgQ k10) (mrg_out _ _), fun f hf => ?_⟩
  rw [mrg_out _ _ 0 (by omega)]; exact w3.2 f hf
/-- another setting's row -/
def srow (r : Nat → Int32) (i : Nat) (x : Int32) : Nat → Int32 := upd r (358 + i) x
theorem vA_srow (r : Nat → Int32) {i : Nat} {x : Int32} (hi : i < 2) : vA (srow r i x) = sIn (vA r) 13 i x := by
  unfold srow
  rw [show 358 + i = fB 13 + fS 13 * i from by show 358 + i = 358 + 1 * i; omega, vA_upd _ _ (show i < fL 13 from Nat.lt_of_lt_of_le hi (by decide))]
  rfl
theorem setQ {c i : Nat} {x : Int32} {mh : gM} {r : Nat → Int32} {rs : List (Nat → Int32)} (hR : Rq c mh r rs) (hi : (i = 0 ∧ (x = 0 ∨ x = 1 ∨ x = 2)) ∨ (i = 1 ∧ (x = 2 ∨ x = 3 ∨ x = 4))) :
    o_h_set mh (Int32.ofNat i) x ∧ (f_h_set mh (Int32.ofNat i) x).1 = r (358 + i) ∧ (∃ y, y ≤ 4 ∧ r (358 + i) = Int32.ofNat y) ∧ Rq c (f_h_set mh (Int32.ofNat i) x).2 (srow r i x) (pus rs r) ∧ ∀ f, f ≠ 3 → (f_h_set mh (Int32.ofNat i) x).2 0 f = mh 0 f := by
  have hi2 : i < 2 := by omega
  have u0 := isIn_y (M := 2) i hi2 (by omega) rfl
  have u1 : ¬ (f_h_isSettingValue (Int32.ofNat i) x = 0) := by
    rcases hi with ⟨rfl, rfl | rfl | rfl⟩ | ⟨rfl, rfl | rfl | rfl⟩ <;> decide
  have u2 : o_h_isSettingValue (Int32.ofNat i) x := by
    rcases hi with ⟨rfl, -⟩ | ⟨rfl, -⟩
    · exact ⟨o_isIn _ _, isIn01 _ _, trivial⟩
    · unfold o_h_isSettingValue
      rw [if_neg (show ¬ (Int32.ofNat 1 = (0 : Int32)) by decide)]
      split
      · trivial
      · split <;> trivial
  obtain ⟨w1, w2, w3⟩ := saveQ hR
  generalize eS : f_h_saveState mh = S at *
  have hq := selQ w2.1
  have k1 := set_RS hq hi
  have k2 := sel_hit (k := 15) (by omega) (by omega) (vA_srow r hi2) k1
  have k3 : hQ c 4 (g_set S 19 (upd (S 19) i x)) (srow r i x) := k2
  have ip := nI_ix (show i < 2147483648 by omega)
  have vp := vp_in_nI hi2 (show 2 < 2 ^ 31 by omega)
  have hS : S 19 i = r (358 + i) := by
    rw [← vA_13 r (show i < 6 by omega)]
    match i, hi2 with
    | 0, _ => exact hq.1.2.2.2.2.2.1
    | 1, _ => exact hq.1.2.2.2.2.2.2.1
    | n + 2, z => omega
  have hy : ∃ y, y ≤ 4 ∧ r (358 + i) = Int32.ofNat y := by
    rw [← vA_13 r (show i < 6 by omega)]
    obtain ⟨-, -, -, -, -, -, -, -, -, s0, s1⟩ := hq.2.1
    match i, hi2 with
    | 0, _ =>
      rcases s0 with s | s | s
      · exact ⟨0, by omega, s⟩
      · exact ⟨1, by omega, s⟩
      · exact ⟨2, by omega, s⟩
    | 1, _ =>
      rcases s1 with s | s | s
      · exact ⟨2, by omega, s⟩
      · exact ⟨3, by omega, s⟩
      · exact ⟨4, by omega, s⟩
    | n + 2, z => omega
  unfold o_h_set f_h_set
  simp only [g_let_def, if_neg u0, if_neg u1, ip, eS]
  refine ⟨⟨o_isIn _ _, u2, w1, vp, vp, trivial⟩, hS, hy, doneQ w2 (Nat.le_refl _) k3 (fun x hx => g_set_n (by omega)), fun f hf => ?_⟩
  rw [g_set_n (by omega)]; exact w3.2 f hf
/-- a wrong value of a setting -/
theorem setX {i x : Nat} (mh : gM) (hi : (i = 0 ∧ 3 ≤ x ∧ x ≤ 4) ∨ (i = 1 ∧ x ≤ 1)) : ox_h_set mh (Int32.ofNat i) (Int32.ofNat x) ∧ fx_h_set mh (Int32.ofNat i) (Int32.ofNat x) = "java/lang/IllegalArgumentException" := by
  have hi2 : i < 2 := by omega
  have u0 := isIn_y (M := 2) i hi2 (by omega) rfl
  have hix : (i = 0 ∧ x = 3) ∨ (i = 0 ∧ x = 4) ∨ (i = 1 ∧ x = 0) ∨ (i = 1 ∧ x = 1) := by omega
  have u1 : f_h_isSettingValue (Int32.ofNat i) (Int32.ofNat x) = 0 := by
    rcases hix with ⟨rfl, rfl⟩ | ⟨rfl, rfl⟩ | ⟨rfl, rfl⟩ | ⟨rfl, rfl⟩ <;> decide
  have u2 : o_h_isSettingValue (Int32.ofNat i) (Int32.ofNat x) := by
    rcases hi with ⟨rfl, -⟩ | ⟨rfl, -⟩
    · exact ⟨o_isIn _ _, isIn01 _ _, trivial⟩
    · unfold o_h_isSettingValue
      rw [if_neg (show ¬ (Int32.ofNat 1 = (0 : Int32)) by decide)]
      split
      · trivial
      · split <;> trivial
  unfold ox_h_set fx_h_set
  simp only [if_neg u0, if_pos u1]
  exact ⟨⟨o_isIn _ _, u2, trivial⟩, trivial⟩
