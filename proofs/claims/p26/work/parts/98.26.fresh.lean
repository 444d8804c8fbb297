/-! the constructors' pictures -/
/-- the fresh row -/
def row0 (j : Nat) : Int32 := if j < 96 then -1 else if j < 108 then 0 else if j < 120 then -1 else if j < 144 then 0 else if j < 344 then (if (j - 144) % 5 < 2 then -1 else 0) else if j < 354 then (if (j - 344) % 2 < 1 then -1 else 0) else if j = 359 then 2 else 0
/-- a fresh store -/
theorem mg1 (c : Nat) (z r : gM) : (∀ k, k ≠ c → g_mrg [c] z r k = z k) := fun k hk => g_mrg_out (by simp only [List.mem_cons, List.not_mem_nil, or_false]; exact hk)
theorem mg1' (c : Nat) (z r : gM) : g_mrg [c] z r c = r 0 := by
  unfold g_mrg
  simp only [g_ix, beq_self_eq_true, if_true]
theorem s_fresh (m : gM) (h : gN) : (f_s_init m h).1 0 15 = 12 ∧ (f_s_init m h).1 0 16 = 0 ∧ (∀ j, j < 40 → (f_s_init m h).1 1 j = -1) ∧ (∀ j, j < 96 → (f_s_init m h).1 6 j = -1) ∧ (∀ j, j < 12 → (f_s_init m h).1 7 j = -1) ∧ (∀ j, j < 5 → (f_s_init m h).1 12 j = -1) ∧ (f_s_init m h).1 15 0 = 0 ∧ (f_s_init m h).1 15 1 = 2 ∧ (∀ k j, (k = 3 ∨ k = 4 ∨ k = 5 ∨ k = 8 ∨ k = 9 ∨ k = 10 ∨ k = 11 ∨ k = 13 ∨ k = 14) → (f_s_init m h).1 k j = 0) := by
  obtain ⟨Q, hQd⟩ : ∃ Q : gM × gN → Prop, Q = fun r => r.1 0 15 = 12 ∧ r.1 0 16 = 0 ∧ (∀ j, j < 40 → r.1 1 j = -1) ∧ (∀ j, j < 96 → r.1 6 j = -1) ∧ (∀ j, j < 12 → r.1 7 j = -1) ∧ (∀ j, j < 5 → r.1 12 j = -1) ∧ r.1 15 0 = 0 ∧ r.1 15 1 = 2 ∧ (∀ k j, (k = 3 ∨ k = 4 ∨ k = 5 ∨ k = 8 ∨ k = 9 ∨ k = 10 ∨ k = 11 ∨ k = 13 ∨ k = 14) → r.1 k j = 0) := ⟨_, rfl⟩
  have key : Q (f_s_init m h) := by
    unfold f_s_init
    refine glq fun z2 h2 => glq fun z4 h4 => glq fun z6 h6 => glq fun z8 h8 => glq fun z10 h10 => glq fun z12 h12 => glq fun z14 h14 => glq fun z16 h16 => glq fun z18 h18 => glq fun z20 h20 => glq fun z22 h22 => glq fun z24 h24 => glq fun z26 h26 => glq fun z28 h28 => glq fun z30 h30 => glq fun z31 h31 => glq fun z32 h32 => glq fun z34 h34 => glq fun z35 h35 => glq fun z37 h37 => glq fun z38 h38 => glq fun z40 h40 => glq fun z41 h41 => glq fun z43 h43 => glq fun z44 h44 => glq fun z45 h45 => ?_
    have e1 : (1 : Int32).toNatClampNeg = 1 := by decide
    have c0 : ∀ j, z45 0 j = z32 0 j := fun j => by rw [h45, g_set_n (by omega), h44, mg1 12 _ _ 0 (by omega), h41, mg1 7 _ _ 0 (by omega), h38, mg1 6 _ _ 0 (by omega), h35, mg1 1 _ _ 0 (by omega)]
    have c9 : ∀ k j, 1 ≤ k → k < 16 → z32 k j = 0 := fun k j k1 k2 => by
      rw [h32, g_set_n (by omega), h31, g_set_n (by omega)]
      match k, k1, k2 with
      | 1, _, _ => rw [h30, g_set_n (by omega), h28, g_set_n (by omega), h26, g_set_n (by omega), h24, g_set_n (by omega), h22, g_set_n (by omega), h20, g_set_n (by omega), h18, g_set_n (by omega), h16, g_set_n (by omega), h14, g_set_n (by omega), h12, g_set_n (by omega), h10, g_set_n (by omega), h8, g_set_n (by omega), h6, g_set_n (by omega), h4, g_set_n (by omega), h2, g_set_s]
      | 2, _, _ => rw [h30, g_set_n (by omega), h28, g_set_n (by omega), h26, g_set_n (by omega), h24, g_set_n (by omega), h22, g_set_n (by omega), h20, g_set_n (by omega), h18, g_set_n (by omega), h16, g_set_n (by omega), h14, g_set_n (by omega), h12, g_set_n (by omega), h10, g_set_n (by omega), h8, g_set_n (by omega), h6, g_set_n (by omega), h4, g_set_s]
      | 3, _, _ => rw [h30, g_set_n (by omega), h28, g_set_n (by omega), h26, g_set_n (by omega), h24, g_set_n (by omega), h22, g_set_n (by omega), h20, g_set_n (by omega), h18, g_set_n (by omega), h16, g_set_n (by omega), h14, g_set_n (by omega), h12, g_set_n (by omega), h10, g_set_n (by omega), h8, g_set_n (by omega), h6, g_set_s]
      | 4, _, _ => rw [h30, g_set_n (by omega), h28, g_set_n (by omega), h26, g_set_n (by omega), h24, g_set_n (by omega), h22, g_set_n (by omega), h20, g_set_n (by omega), h18, g_set_n (by omega), h16, g_set_n (by omega), h14, g_set_n (by omega), h12, g_set_n (by omega), h10, g_set_n (by omega), h8, g_set_s]
      | 5, _, _ => rw [h30, g_set_n (by omega), h28, g_set_n (by omega), h26, g_set_n (by omega), h24, g_set_n (by omega), h22, g_set_n (by omega), h20, g_set_n (by omega), h18, g_set_n (by omega), h16, g_set_n (by omega), h14, g_set_n (by omega), h12, g_set_n (by omega), h10, g_set_s]
      | 6, _, _ => rw [h30, g_set_n (by omega), h28, g_set_n (by omega), h26, g_set_n (by omega), h24, g_set_n (by omega), h22, g_set_n (by omega), h20, g_set_n (by omega), h18, g_set_n (by omega), h16, g_set_n (by omega), h14, g_set_n (by omega), h12, g_set_s]
      | 7, _, _ => rw [h30, g_set_n (by omega), h28, g_set_n (by omega), h26, g_set_n (by omega), h24, g_set_n (by omega), h22, g_set_n (by omega), h20, g_set_n (by omega), h18, g_set_n (by omega), h16, g_set_n (by omega), h14, g_set_s]
      | 8, _, _ => rw [h30, g_set_n (by omega), h28, g_set_n (by omega), h26, g_set_n (by omega), h24, g_set_n (by omega), h22, g_set_n (by omega), h20, g_set_n (by omega), h18, g_set_n (by omega), h16, g_set_s]
      | 9, _, _ => rw [h30, g_set_n (by omega), h28, g_set_n (by omega), h26, g_set_n (by omega), h24, g_set_n (by omega), h22, g_set_n (by omega), h20, g_set_n (by omega), h18, g_set_s]
      | 10, _, _ => rw [h30, g_set_n (by omega), h28, g_set_n (by omega), h26, g_set_n (by omega), h24, g_set_n (by omega), h22, g_set_n (by omega), h20, g_set_s]
      | 11, _, _ => rw [h30, g_set_n (by omega), h28, g_set_n (by omega), h26, g_set_n (by omega), h24, g_set_n (by omega), h22, g_set_s]
      | 12, _, _ => rw [h30, g_set_n (by omega), h28, g_set_n (by omega), h26, g_set_n (by omega), h24, g_set_s]
      | 13, _, _ => rw [h30, g_set_n (by omega), h28, g_set_n (by omega), h26, g_set_s]
      | 14, _, _ => rw [h30, g_set_n (by omega), h28, g_set_s]
      | 15, _, _ => rw [h30, g_set_s]
      | n + 16, _, z => omega
      | 0, z, _ => omega
    have ck : ∀ k j, k ≠ 1 → k ≠ 6 → k ≠ 7 → k ≠ 12 → k ≠ 15 → z45 k j = z32 k j := fun k j k1 k6 k7 k12 k15 => by rw [h45, g_set_n k15, h44, mg1 12 _ _ k k12, h41, mg1 7 _ _ k k7, h38, mg1 6 _ _ k k6, h35, mg1 1 _ _ k k1]
    rw [hQd]
    refine ⟨?_, ?_, fun j hj => ?_, fun j hj => ?_, fun j hj => ?_, fun j hj => ?_, ?_, ?_, fun k j hk => ?_⟩
    · show z45 0 15 = 12
      rw [c0, h32, g_set_s, upd_at, if_neg (by decide), h31, g_set_s, upd_at, if_pos rfl]
    · show z45 0 16 = 0
      rw [c0, h32, g_set_s, upd_at, if_pos rfl]
    · show z45 1 j = -1
      rw [h45, g_set_n (by omega), h44, mg1 12 _ _ 1 (by omega), h41, mg1 7 _ _ 1 (by omega), h38, mg1 6 _ _ 1 (by omega), h35, mg1', h34, (fill40_at _ _).2, if_pos ⟨rfl, hj⟩]
    · show z45 6 j = -1
      rw [h45, g_set_n (by omega), h44, mg1 12 _ _ 6 (by omega), h41, mg1 7 _ _ 6 (by omega), h38, mg1', h37, (fill96_at _ _).2, if_pos ⟨rfl, hj⟩]
    · show z45 7 j = -1
      rw [h45, g_set_n (by omega), h44, mg1 12 _ _ 7 (by omega), h41, mg1', h40, (fill12_at _ _).2, if_pos ⟨rfl, hj⟩]
    · show z45 12 j = -1
      rw [h45, g_set_n (by omega), h44, mg1', h43, (fill5_at _ _).2, if_pos ⟨rfl, hj⟩]
    · show z45 15 0 = 0
      rw [h45, g_set_s, upd_at, e1, if_neg (by decide), h44, mg1 12 _ _ 15 (by omega), h41, mg1 7 _ _ 15 (by omega), h38, mg1 6 _ _ 15 (by omega), h35, mg1 1 _ _ 15 (by omega), c9 15 0 (by omega) (by omega)]
    · show z45 15 1 = 2
      rw [h45, g_set_s, upd_at, e1, if_pos rfl]
    · show z45 k j = 0
      rw [ck k j (by omega) (by omega) (by omega) (by omega) (by omega), c9 k j (by omega) (by omega)]
  rw [hQd] at key
  exact key
/-- a fresh class -/
theorem h_fresh (m : gM) (h : gN) : (f_h_init m h).1 0 3 = 0 ∧ (f_h_init m h).1 0 5 = 0 ∧ ∃ m0 h0, ∀ k, k < 16 → (f_h_init m h).1 (4 + k) = (f_s_init m0 h0).1 k := by
  obtain ⟨Q, hQd⟩ : ∃ Q : gM × gN → Prop, Q = fun r => r.1 0 3 = 0 ∧ r.1 0 5 = 0 ∧ ∃ m0 h0, ∀ k, k < 16 → r.1 (4 + k) = (f_s_init m0 h0).1 k := ⟨_, rfl⟩
  have ap : ∀ {L k : Nat} {f g : gM}, k < L → g_app L f g k = f k := fun hk => if_pos hk
  have key : Q (f_h_init m h) := by
    unfold f_h_init
    refine glq fun z2 h2 => glq fun z3 h3 => glq fun z5 h5 => glq fun z6 h6 => glq fun z7 h7 => glq fun z9 h9 => glq fun z10 h10 => glq fun z12 h12 => glq fun z13 h13 => glq fun z14 h14 => glq fun z16 h16 => glq fun z18 h18 => glq fun z19 h19 => glq fun z21 h21 => glq fun z22 h22 => glq fun z24 h24 => glq fun z25 h25 => glq fun z26 h26 => glq fun z28 h28 => glq fun z29 h29 => glq fun z31 h31 => glq fun z32 h32 => glq fun z33 h33 => glq fun z35 h35 => glq fun z36 h36 => glq fun z38 h38 => glq fun z39 h39 => glq fun z40 h40 => glq fun z42 h42 => glq fun z43 h43 => glq fun z45 h45 => glq fun z46 h46 => glq fun z47 h47 => glq fun z49 h49 => glq fun z50 h50 => glq fun z52 h52 => glq fun z53 h53 => glq fun z54 h54 => glq fun z56 h56 => glq fun z57 h57 => glq fun z59 h59 => glq fun z60 h60 => glq fun z61 h61 => glq fun z63 h63 => glq fun z64 h64 => glq fun z66 h66 => glq fun z67 h67 => glq fun z68 h68 => ?_
    have low : ∀ k, k < 17 → z67 k = z19 k := fun k hk => by
      rw [h67, ap (by omega), h63, g_set_n (by omega), h60, ap (by omega), h56, g_set_n (by omega), h53, ap (by omega), h49, g_set_n (by omega), h46, ap (by omega), h42, g_set_n (by omega), h39, ap (by omega), h35, g_set_n (by omega), h32, ap (by omega), h28, g_set_n (by omega), h25, ap (by omega), h21, g_set_n (by omega)]
    rw [hQd]
    refine ⟨?_, ?_, (fun _ => z2 1), (fun _ => z3 1), fun k hk => ?_⟩
    · show z67 0 3 = 0
      rw [low 0 (by omega), h19, g_set_s, upd_at, if_neg (by decide), h18, g_set_n (by omega), h16, g_set_s, upd_at, if_pos rfl]
    · show z67 0 5 = 0
      rw [low 0 (by omega), h19, g_set_s, upd_at, if_pos rfl]
    · have e : z67 (1 + k) = z5.1 k := by
        rw [low (1 + k) (by omega), h19, g_set_n (by omega), h18, g_set_n (by omega), h16, g_set_n (by omega), h13, ap (by omega), h9, g_set_n (by omega), h6]
        show (if 1 + k < 1 then z2 (1 + k) else z5.1 (1 + k - 1)) = z5.1 k
        rw [if_neg (by omega), show 1 + k - 1 = k by omega]
      rw [← h5, ← e]
      match k, hk with
      | 0, _ => rfl
      | 1, _ => rfl
      | 2, _ => rfl
      | 3, _ => rfl
      | 4, _ => rfl
      | 5, _ => rfl
      | 6, _ => rfl
      | 7, _ => rfl
      | 8, _ => rfl
      | 9, _ => rfl
      | 10, _ => rfl
      | 11, _ => rfl
      | 12, _ => rfl
      | 13, _ => rfl
      | 14, _ => rfl
      | 15, _ => rfl
      | n + 16, z => omega
  rw [hQd] at key
  exact key
/-! the fresh row keeps what is asked of a row -/
theorem w0_0 : ∀ k, k < 96 → vA row0 0 k = -1 := by decide +kernel
theorem w0_1 : ∀ k, k < 40 → vA row0 1 k = -1 ∧ vA row0 2 k = -1 ∧ vA row0 3 k = 0 ∧ vA row0 4 k = 0 ∧ vA row0 5 k = 0 := by decide +kernel
theorem w0_6 : ∀ k, k < 12 → vA row0 6 k = 0 ∧ vA row0 7 k = -1 ∧ vA row0 8 k = 0 ∧ vA row0 9 k = 0 ∧ cN (vA row0) k = 0 ∧ vL (vA row0) k = 0 := by decide +kernel
theorem w0_10 : ∀ k, k < 5 → vA row0 10 k = -1 ∧ vA row0 11 k = 0 := by decide +kernel
theorem w0_12 : ∀ k, k < 4 → vA row0 12 k = 0 := by decide +kernel
theorem w0_13 : vA row0 13 0 = 0 ∧ vA row0 13 1 = 2 ∧ vA row0 13 2 = 0 ∧ vA row0 13 3 = 0 ∧ vA row0 13 4 = 0 ∧ vA row0 13 5 = 0 ∧ frN (vA row0) = 12 ∧ sI 12 (vA row0 8) = 0 ∧ sI 40 (vA row0 3) = 0 ∧ vA row0 11 4 = 0 ∧ sS 12 (vL (vA row0)) = sS 40 (wN (vA row0)) ∧ sS 12 (sN (vA row0) 1) = sS 5 (oN (vA row0)) := by decide +kernel
theorem row0_T : jT 0 0 (vA row0) := by
  obtain ⟨a0, a1, a2, a3, a4, a5, a6, a7, a8, a9, aE, aF⟩ := w0_13
  refine ⟨⟨fun k hk => Or.inl (w0_0 k hk), fun p hp => Or.inl (w0_1 p hp).1, fun p hp => ⟨fun w => absurd (w0_1 p hp).1 w, fun _ _ => (w0_1 p hp).2.1⟩, fun b hb => ⟨fun j hj => ?_, Or.inl ⟨(w0_6 b hb).2.2.2.2.1, (w0_6 b hb).1, (w0_6 b hb).2.1⟩⟩, fun s hs => Or.inl (w0_10 s hs).1, aE, aF, ⟨fun b hb => ⟨0, Nat.le_refl _, (w0_6 b hb).2.2.1⟩, fun b hb => ⟨0, Nat.le_refl _, (w0_6 b hb).2.2.2.1⟩, 0, Nat.le_refl _, a5⟩, ⟨fun b hb w => ?_, fun b b' hb hb' w => ?_⟩, ⟨Or.inl a0, Or.inl a1⟩⟩, ⟨⟨0, Nat.le_refl _, a2⟩, ⟨0, Nat.le_refl _, a3⟩, a3.trans a9.symm, a4.trans a7.symm, a2.trans a8.symm⟩, by rw [a6]; omega⟩
  · rw [(w0_6 b hb).2.2.2.2.1]
    exact ⟨fun _ => Nat.zero_le _, fun _ => w0_0 _ (by omega)⟩
  · rw [(w0_6 b hb).1] at w; exact absurd w (by decide)
  · rw [(w0_6 b hb).1] at w; exact absurd w (by decide)
theorem hQ_fresh {mh m1 : gM} {h1 : gN} (hh : ∀ k, k < 132 → mh k = (f_h_init m1 h1).1 k) : hQ 0 4 mh row0 ∧ mh 0 3 = 0 ∧ mh 0 5 = 0 := by
  obtain ⟨c1, c2, m0, h0, c3⟩ := h_fresh m1 h1
  obtain ⟨s1, s2, s3, s4, s5, s6, s7, s8, s9⟩ := s_fresh m0 h0
  have hst : ∀ k, k < 16 → hS 4 mh k = (f_s_init m0 h0).1 k := fun k hk => by
    show mh (4 + k) = _
    rw [hh (4 + k) (by omega), c3 k hk]
  obtain ⟨a0, a1, a2, a3, a4, a5, a6, -, -, a9, -, -⟩ := w0_13
  have q0 : hQ 0 4 mh row0 := by
    refine ⟨⟨fun p hp => ?_, fun k hk => ?_, fun b hb => ?_, fun s hs => ?_, ⟨fun x hx => ?_, ?_⟩, ?_, ?_, ?_, ?_⟩, row0_T⟩
    · obtain ⟨w1, w2, w3, w4, w5⟩ := w0_1 p hp
      refine ⟨?_, fun w => absurd w2 w, ?_, ?_, ?_⟩
      · rw [hst 1 (by omega), w1]; exact s3 p hp
      · rw [hst 3 (by omega), w3]; exact s9 3 p (by omega)
      · rw [hst 4 (by omega), w4]; exact s9 4 p (by omega)
      · rw [hst 5 (by omega), w5]; exact s9 5 p (by omega)
    · rw [hst 6 (by omega), w0_0 k hk]; exact s4 k hk
    · obtain ⟨w1, w2, w3, w4, w5, w6⟩ := w0_6 b hb
      refine ⟨?_, ?_, ?_, ?_, ?_⟩
      · rw [hst 7 (by omega), w2]; exact s5 b hb
      · rw [hst 8 (by omega), w5]; exact s9 8 b (by omega)
      · rw [hst 9 (by omega), w6]; exact s9 9 b (by omega)
      · rw [hst 10 (by omega), w3]; exact s9 10 b (by omega)
      · rw [hst 11 (by omega), w4]; exact s9 11 b (by omega)
    · obtain ⟨w1, w2⟩ := w0_10 s hs
      refine ⟨?_, ?_⟩
      · rw [hst 12 (by omega), w1]; exact s6 s hs
      · rw [hst 13 (by omega), w2]; exact s9 13 s (by omega)
    · rw [hst 14 (by omega), w0_12 x hx]; exact s9 14 x (by omega)
    · rw [hst 14 (by omega)]; exact s9 14 4 (by omega)
    · rw [hst 15 (by omega), a0]; exact s7
    · rw [hst 15 (by omega), a1]; exact s8
    · rw [hst 0 (by omega), a6]; exact s1
    · rw [hst 0 (by omega), a5]; exact s2
  refine ⟨q0, ?_, ?_⟩
  · rw [hh 0 (by omega)]; exact c1
  · rw [hh 0 (by omega)]; exact c2
