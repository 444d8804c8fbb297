/-! the calls that change the state -/
theorem saved_R {n : Nat} {mh mr : gM} (h : Rl n mh mr) : o_h_saveState mh ∧ o_r_saves (g_set mr 0 (upd (mr 0) 6 (0 : Int32))) ∧ hQ (116400 * n) 4 (f_h_saveState mh) ((f_r_saves (g_set mr 0 (upd (mr 0) 6 (0 : Int32)))) 1) ∧ (∃ k, k ≤ 6 ∧ rSv (116400 * n) k (f_h_saveState mh) (f_r_saves (g_set mr 0 (upd (mr 0) 6 (0 : Int32))))) ∧ rTx (f_h_saveState mh) (f_r_saves (g_set mr 0 (upd (mr 0) 6 (0 : Int32)))) ∧ f_r_thrown (f_r_saves (g_set mr 0 (upd (mr 0) 6 (0 : Int32)))) = 0 ∧ (∀ c, 1 ≤ c → c < 36 → f_h_saveState mh c = mh c) ∧ (f_r_saves (g_set mr 0 (upd (mr 0) 6 (0 : Int32)))) 1 = mr 1 ∧ (∀ c, c ≠ 0 → c ≠ 3 → (f_r_saves (g_set mr 0 (upd (mr 0) 6 (0 : Int32)))) c = mr c) ∧ (∀ f, f ≠ 3 → f ≠ 6 → (f_r_saves (g_set mr 0 (upd (mr 0) 6 (0 : Int32)))) 0 f = mr 0 f) ∧ (∀ f, f ≠ 3 → f_h_saveState mh 0 f = mh 0 f) := by
  have h' : Rl n mh (g_set mr 0 (upd (mr 0) 6 (0 : Int32))) := Rl_r (mr := mr) rfl rfl rfl rfl rfl h
  obtain ⟨h1, ⟨k, hk, h2⟩, h3⟩ := h'
  obtain ⟨a1, a2, ⟨k', hk1, hk2, a3⟩, b1, b2, b3, b4⟩ := save_R h1 hk h2
  have e1 := b3 1 (by decide) (by decide)
  refine ⟨a1, a2, ?_, ⟨k', hk2, a3⟩, ?_, ?_, b1, e1, fun c hc0 hc3 => ?_, fun f h3 h6 => ?_, b2⟩
  · rw [e1]
    exact hQ_cell (b := 4) (m := mh) (fun j hj1 hj2 => b1 _ (by omega) (by omega)) (congrFun (b1 4 (by omega) (by omega)) 15) (congrFun (b1 4 (by omega) (by omega)) 16) (fun _ _ => rfl) h1
  · exact rTx_same (b1 2 (by omega) (by omega)) (b2 5 (by decide)) (b3 4 (by decide) (by decide)) (b4 5 (by decide)) h3
  · show (f_r_saves _) 0 6 = 0
    rw [b4 6 (by decide)]; rfl
  · rw [b3 c hc0 hc3, g_set_n hc0]
  · rw [b4 f h3, g_set_s, upd_at, if_neg h6]
theorem done_R {n c c' : Nat} {S T S' T' : gM} (hc : c ≤ 116400 * (n + 1)) (hc' : c' ≤ 116400 * (n + 1)) (hq : hQ c 4 S' (T' 1)) (hk : ∃ k, k ≤ 6 ∧ rSv c' k S T) (htx : rTx S T) (hS : ∀ c, ¬ (4 ≤ c ∧ c < 20) → S' c = S c) (hT : ∀ c, c ≠ 1 → T' c = T c) : Rl (n + 1) S' T' := by
  obtain ⟨k, hk6, hk⟩ := hk
  have s0 := hS 0 (by omega)
  have t0 := hT 0 (by omega)
  exact ⟨hQ_up hq hc, ⟨k, hk6, rSv_up (rSv_same (by rw [s0]) (fun x h1 h2 => hS x (by omega)) (by rw [t0]) (hT 3 (by omega)) hk6 hk) hc'⟩, rTx_same (hS 2 (by omega)) (by rw [s0]) (hT 4 (by omega)) (by rw [t0]) htx⟩
theorem Rl_mul (n : Nat) : 116400 * (n + 1) = 116400 * n + 116400 := by omega
/-! pages written in a row -/
def wS (c k x : Nat) (A m A' : gM) : Prop := jQ (c + 97 * k) (8 * (c + 97 * k)) m A' ∧ A' 13 0 = A 13 0 ∧ A' 13 1 = A 13 1 ∧ A' 13 2 = A 13 2 + Int32.ofNat k ∧ A' 13 3 = A 13 3 + Int32.ofNat x
theorem wS_0 {c : Nat} {A m : gM} (h : jQ c (8 * c) m A) : wS c 0 0 A m A := ⟨h, rfl, rfl, (Int32.add_zero _).symm, (Int32.add_zero _).symm⟩
theorem wS_step {c k x p h : Nat} {A m zm : gM} (hw : wS c k x A m (vA (zm 1))) (hp : p < 40) (hh : h < 4) (hc : c + 97 * (k + 1) < 100000000) :
    o_r_writes (g_sel [1] zm) (Int32.ofNat p) (Int32.ofNat h) ∧ o_s_writePage m (Int32.ofNat p) (Int32.ofNat h) ∧ ∃ x', (f_r_writes (g_sel [1] zm) (Int32.ofNat p) (Int32.ofNat h)).1 = Int32.ofNat x' ∧ wS c (k + 1) (x + x') A (f_s_writePage m (Int32.ofNat p) (Int32.ofNat h)) (vA ((g_mrg [1] zm (f_r_writes (g_sel [1] zm) (Int32.ofNat p) (Int32.ofNat h)).2) 1)) ∧ vA ((g_mrg [1] zm (f_r_writes (g_sel [1] zm) (Int32.ofNat p) (Int32.ofNat h)).2) 1) 1 p ≠ -1 := by
  obtain ⟨h1, h2, h3, h4, h5⟩ := hw
  obtain ⟨k1, k2, x', k3, k4, q1, q2, q3, q4, q5⟩ := writes_RS (mr := g_sel [1] zm) (aR_sel1 zm) h1 hp hh (by omega) (by omega)
  refine ⟨k1, k2, x', k3, ⟨?_, q1.trans h2, q2.trans h3, ?_, ?_⟩, q5⟩
  · have e : c + 97 * (k + 1) = c + 97 * k + 97 := by omega
    rw [e, show 8 * (c + 97 * k + 97) = 8 * (c + 97 * k) + 776 by omega]
    exact k4
  · have q3' : vA ((g_mrg [1] zm (f_r_writes (g_sel [1] zm) (Int32.ofNat p) (Int32.ofNat h)).2) 1) 13 2 = vA (zm 1) 13 2 + 1 := q3
    rw [q3', h4, Int32.add_assoc, e1r]
  · have q4' : vA ((g_mrg [1] zm (f_r_writes (g_sel [1] zm) (Int32.ofNat p) (Int32.ofNat h)).2) 1) 13 3 = vA (zm 1) 13 3 + Int32.ofNat x' := q4
    rw [q4', h5, ← nI_plus2, Int32.add_assoc]
theorem wS_copies {c k x : Nat} {A m A' m' : gM} (h0 : jQ c (8 * c) m A) (h : wS c k x A m' A') : f_s_copies m' - f_s_copies m = Int32.ofNat x := by
  obtain ⟨h1, -, -, -, h5⟩ := h
  have a1 : f_s_copies m = A 13 3 := by rw [h0.2.2.1.2.2.1]; exact (h0.1.2.2.2.1 4 (by omega)).2
  have a2 : f_s_copies m' = A' 13 3 := by rw [h1.2.2.1.2.2.1]; exact (h1.1.2.2.2.1 4 (by omega)).2
  rw [a1, a2, h5, Int32.add_comm, Int32.add_sub_cancel]
theorem wp_step {m : gM} {x1 x2 x3 x4 : Int32} {p : Nat} (hp : p < 40) (h2 : ¬ x2 < Int32.ofNat p) : L_s_writePages_9 x1 x2 x3 x4 (Int32.ofNat p, m) = (true, (Int32.ofNat (p + 1), f_s_writePage m (Int32.ofNat p) x3)) ∧ K_s_writePages_9 x1 x2 x3 x4 (Int32.ofNat p, m) = (o_s_writePage m (Int32.ofNat p) x3 ∧ True) := by
  unfold L_s_writePages_9 K_s_writePages_9
  simp only [g_let_def, if_neg h2, if_neg (lq40 hp), e1r, and_self]
theorem wp_end {m : gM} {x1 x2 x3 x4 : Int32} {p : Nat} (h2 : x2 < Int32.ofNat p) : L_s_writePages_9 x1 x2 x3 x4 (Int32.ofNat p, m) = (false, (Int32.ofNat p, m)) ∧ K_s_writePages_9 x1 x2 x3 x4 (Int32.ofNat p, m) = True := by
  unfold L_s_writePages_9 K_s_writePages_9
  simp only [if_pos h2, and_self]
/-- one page -/
theorem writePages_1 {c p h : Nat} {m zm : gM} (h0 : jQ c (8 * c) m (vA (zm 1))) (hp : p < 40) (hh : h < 4) (hc : c + 97 < 100000000) :
    o_r_writes (g_sel [1] zm) (Int32.ofNat p) (Int32.ofNat h) ∧ o_s_writePages m (Int32.ofNat p) (Int32.ofNat p) (Int32.ofNat h) ∧ (f_s_writePages m (Int32.ofNat p) (Int32.ofNat p) (Int32.ofNat h)).1 = (f_r_writes (g_sel [1] zm) (Int32.ofNat p) (Int32.ofNat h)).1 ∧ jQ (c + 97) (8 * (c + 97)) (f_s_writePages m (Int32.ofNat p) (Int32.ofNat p) (Int32.ofNat h)).2 (vA ((g_mrg [1] zm (f_r_writes (g_sel [1] zm) (Int32.ofNat p) (Int32.ofNat h)).2) 1)) := by
  obtain ⟨k1, k2, x, k3, k4, -⟩ := wS_step (wS_0 h0) hp hh (by omega)
  have n1 : ¬ (Int32.ofNat p < Int32.ofNat p) := fun w => by have := (ltI (by omega) (by omega)).mp w; omega
  have n2 : Int32.ofNat p < Int32.ofNat (p + 1) := (ltI (by omega) (by omega)).mpr (by omega)
  obtain ⟨s1, s2⟩ := wp_step (m := m) (x1 := Int32.ofNat p) (x3 := Int32.ofNat h) (x4 := f_s_copies m) hp n1
  obtain ⟨s3, s4⟩ := wp_end (m := f_s_writePage m (Int32.ofNat p) (Int32.ofNat h)) (x1 := Int32.ofNat p) (x3 := Int32.ofNat h) (x4 := f_s_copies m) n2
  have hrun : run (L_s_writePages_9 (Int32.ofNat p) (Int32.ofNat p) (Int32.ofNat h) (f_s_copies m)) 400 (Int32.ofNat p, m) = (Int32.ofNat (p + 1), f_s_writePage m (Int32.ofNat p) (Int32.ofNat h)) := by
    rw [run_t s1, run_f s3]
  have hok : rOk (L_s_writePages_9 (Int32.ofNat p) (Int32.ofNat p) (Int32.ofNat h) (f_s_copies m)) (K_s_writePages_9 (Int32.ofNat p) (Int32.ofNat p) (Int32.ofNat h) (f_s_copies m)) 400 (Int32.ofNat p, m) := by
    refine ⟨by rw [s2]; exact ⟨k2, trivial⟩, fun _ => ?_⟩
    rw [s1]
    refine ⟨by rw [s4]; trivial, fun w => ?_⟩
    rw [s3] at w; cases w
  unfold f_s_writePages o_s_writePages
  simp only [g_let_def, hrun]
  refine ⟨k1, ⟨trivial, hok, trivial, trivial⟩, ?_, k4.1⟩
  rw [k3, wS_copies h0 k4, Nat.zero_add]
theorem writePages_row {c p k h : Nat} {m zm : gM} (h0 : jQ c (8 * c) m (vA (zm 1))) (hk1 : 1 ≤ k) (hpk : p + k ≤ 40) (hh : h < 4) (hc : c + 97 * 40 < 100000000) :
    rOk (L_r_writeRow_53 (Int32.ofNat p) (Int32.ofNat k) (Int32.ofNat h)) (K_r_writeRow_53 (Int32.ofNat p) (Int32.ofNat k) (Int32.ofNat h)) 400 ((0 : Int32), Int32.ofNat p, zm) ∧ o_s_writePages m (Int32.ofNat p) (Int32.ofNat (p + k - 1)) (Int32.ofNat h) ∧ (f_s_writePages m (Int32.ofNat p) (Int32.ofNat (p + k - 1)) (Int32.ofNat h)).1 = (run (L_r_writeRow_53 (Int32.ofNat p) (Int32.ofNat k) (Int32.ofNat h)) 400 ((0 : Int32), Int32.ofNat p, zm)).1 ∧ jQ (c + 97 * 40) (8 * (c + 97 * 40)) (f_s_writePages m (Int32.ofNat p) (Int32.ofNat (p + k - 1)) (Int32.ofNat h)).2 (vA ((run (L_r_writeRow_53 (Int32.ofNat p) (Int32.ofNat k) (Int32.ofNat h)) 400 ((0 : Int32), Int32.ofNat p, zm)).2.2 1)) ∧ (∀ c, c ≠ 1 → (run (L_r_writeRow_53 (Int32.ofNat p) (Int32.ofNat k) (Int32.ofNat h)) 400 ((0 : Int32), Int32.ofNat p, zm)).2.2 c = zm c) := by
  have hL := run2 (f := L_r_writeRow_53 (Int32.ofNat p) (Int32.ofNat k) (Int32.ofNat h)) (g := L_s_writePages_9 (Int32.ofNat p) (Int32.ofNat (p + k - 1)) (Int32.ofNat h) (f_s_copies m)) (K := K_r_writeRow_53 (Int32.ofNat p) (Int32.ofNat k) (Int32.ofNat h)) (K' := K_s_writePages_9 (Int32.ofNat p) (Int32.ofNat (p + k - 1)) (Int32.ofNat h) (f_s_copies m)) (n := k) (fuel := 400) (fuel' := 400) (z := ((0 : Int32), Int32.ofNat p, zm)) (w := (Int32.ofNat p, m))
    (fun r (z : Int32 × Int32 × gM) (w : Int32 × gM) => ∃ i x, r + i = k ∧ z.1 = Int32.ofNat x ∧ z.2.1 = Int32.ofNat (p + i) ∧ w.1 = Int32.ofNat (p + i) ∧ wS c i x (vA (zm 1)) w.2 (vA (z.2.2 1)) ∧ ∀ c, c ≠ 1 → z.2.2 c = zm c)
    (fun (z : Int32 × Int32 × gM) (w : Int32 × gM) => ∃ x, z.1 = Int32.ofNat x ∧ wS c k x (vA (zm 1)) w.2 (vA (z.2.2 1)) ∧ ∀ c, c ≠ 1 → z.2.2 c = zm c)
    (by omega) (by omega) ⟨0, 0, by omega, rfl, rfl, rfl, wS_0 h0, fun _ _ => rfl⟩ (fun r z w hI => ?_)
  · obtain ⟨a1, a2, x, a3, a4, a5⟩ := hL
    unfold f_s_writePages o_s_writePages
    simp only [g_let_def]
    have hj := a4.1
    refine ⟨a1, ⟨trivial, a2, trivial, trivial⟩, ?_, jQ_up hj (by omega) (by omega), a5⟩
    rw [a3, wS_copies h0 a4]
  · obtain ⟨z1, z2, z3⟩ := z
    obtain ⟨w1, w2⟩ := w
    obtain ⟨i, x, hr, hz1, hz2, hw1, hw, hc1⟩ := hI
    dsimp only at hz1 hz2 hw1 hw hc1
    subst hz1
    subst hz2
    subst hw1
    by_cases hi : i < k
    · have hp : p + i < 40 := by omega
      have hlt : ¬ (Int32.ofNat (p + k) ≤ Int32.ofNat (p + i)) := by rw [leI (by omega) (by omega)]; omega
      have n1 : ¬ (Int32.ofNat (p + k - 1) < Int32.ofNat (p + i)) := fun w => by have := (ltI (by omega) (by omega)).mp w; omega
      obtain ⟨k1, k2, x', k3, k4, -⟩ := wS_step hw hp hh (by omega)
      obtain ⟨s1, s2⟩ := wp_step (m := w2) (x1 := Int32.ofNat p) (x3 := Int32.ofNat h) (x4 := f_s_copies m) hp n1
      rw [s1, s2]
      unfold L_r_writeRow_53 K_r_writeRow_53
      simp only [g_let_def, nI_plus2, if_neg hlt, k3, e1r]
      refine ⟨⟨k1, trivial⟩, ⟨k2, trivial⟩, Or.inl ⟨trivial, trivial, r - 1, by omega, i + 1, x + x', by omega, rfl, rfl, rfl, k4, fun c hc => ?_⟩⟩
      rw [(g_mrg1 z3 _).1 c hc]; exact hc1 c hc
    · have : i = k := by omega
      subst this
      have hle : (Int32.ofNat (p + i) ≤ Int32.ofNat (p + i)) := by rw [leI (by omega) (by omega)]; omega
      have n2 : Int32.ofNat (p + i - 1) < Int32.ofNat (p + i) := (ltI (by omega) (by omega)).mpr (by omega)
      obtain ⟨s3, s4⟩ := wp_end (m := w2) (x1 := Int32.ofNat p) (x3 := Int32.ofNat h) (x4 := f_s_copies m) n2
      rw [s3, s4]
      unfold L_r_writeRow_53 K_r_writeRow_53
      simp only [nI_plus2, if_pos hle]
      exact ⟨trivial, trivial, Or.inr ⟨trivial, trivial, x, rfl, hw, hc1⟩⟩
theorem rt1 {f : Nat → Int32} {p : Nat} {x : Int32} (h9 : p < 40) : vA (upd f ((((144 : Int32) + ((5 : Int32) * Int32.ofNat p)) + (0 : Int32))).toNatClampNeg x) = g_set (vA f) 1 (upd (vA f 1) p x) := rs1 (m := fun _ => f) h9
theorem rt2 {f : Nat → Int32} {p : Nat} {x : Int32} (h9 : p < 40) : vA (upd f ((((144 : Int32) + ((5 : Int32) * Int32.ofNat p)) + (1 : Int32))).toNatClampNeg x) = g_set (vA f) 2 (upd (vA f 2) p x) := rs2 (m := fun _ => f) h9
theorem rt5 {f : Nat → Int32} {p : Nat} {x : Int32} (h9 : p < 40) : vA (upd f ((((144 : Int32) + ((5 : Int32) * Int32.ofNat p)) + (4 : Int32))).toNatClampNeg x) = g_set (vA f) 5 (upd (vA f 5) p x) := rs5 (m := fun _ => f) h9
