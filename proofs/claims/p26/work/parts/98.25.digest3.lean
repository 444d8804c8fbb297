/-! the digest's two chains -/
theorem gl {α : Type} {v : α} {k : α → Prop} (h : ∀ z, z = v → k z) : g_let v k := by rw [g_let_def]; exact h v rfl
theorem glq {α β : Type} {v : α} {k : α → β} {Q : β → Prop} (h : ∀ z, z = v → Q (k z)) : Q (g_let v k) := by rw [g_let_def]; exact h v rfl
noncomputable def dg1 (M : gM) : Int64 := itr (mx (fun w => f_r_counted M (Int32.ofNat w))) 2731 12
noncomputable def dg2 (M : gM) : Int64 := 31 * (31 * dg1 M + (M 1 (358 : Int32).toNatClampNeg).toInt64) + (M 1 (359 : Int32).toNatClampNeg).toInt64
noncomputable def dg3 (M : gM) : Int64 := itr (fun p a => itr (mx (fun w => f_r_ofPage M (Int32.ofNat p) (Int32.ofNat w))) a 6) (dg2 M) 40
noncomputable def dg4 (M : gM) : Int64 := itr (fun p a => itr (mx (fun w => vA (M 1) 0 (8 * p + w))) (itr (mx (fun w => f_r_ofBlock M (Int32.ofNat p) (Int32.ofNat w))) a 8) 8) (dg3 M) 12
noncomputable def dg5 (M : gM) : Int64 := itr (fun p a => itr (mx (fun w => f_r_ofStream M (Int32.ofNat p) (Int32.ofNat w))) a 5) (dg4 M) 5
noncomputable def dg6 (M : gM) : Int64 := itr (fun x a => itr (mx (fcV M x)) a 3) (dg5 M) 4
noncomputable def dg7 (M : gM) (u : Nat) : Int64 := 31 * (31 * dg6 M + ((f_r_rewritten M (1 : Int32) (Int32.ofNat u)).1).toInt64) + ((f_r_best M (2 : Int32)).1).toInt64
noncomputable def dg8 (M : gM) (u L : Nat) : Int64 := 31 * (31 * dg7 M u + f_j_d2l (f_r_amplified M)) + (Int32.ofNat L).toInt64
noncomputable def dg9 (M : gM) (u L : Nat) (tx : Nat → Int32) : Int64 := itr (mx tx) (dg8 M u L) L
theorem dig_h {n u L : Nat} {mh M : gM} {tx : Nat → Int32} (hn : n < 512) (hl : Rl n mh M) (hu : u < 3) (eh : mh 19 (0 : Int32).toNatClampNeg = Int32.ofNat u) (er : M 1 (358 : Int32).toNatClampNeg = Int32.ofNat u) (hL : L ≤ 60) (h5 : mh 0 5 = Int32.ofNat L) (ht : ∀ i, i < L → mh 2 i = tx i) :
    o_h_digest mh ∧ (f_h_digest mh).1 = dg9 M u L tx ∧ agH mh (f_h_digest mh).2 := by
  obtain ⟨bd1, bd3⟩ := bd hn
  have bd4 := bd2 hn
  have hq := hl.1
  obtain ⟨hR, hT⟩ := selQ hq
  have hA := hT.1
  have e0 : mh 19 (0 : Int32).toNatClampNeg = M 1 (358 : Int32).toNatClampNeg := eh.trans er.symm
  have e1 : mh 19 (1 : Int32).toNatClampNeg = M 1 (359 : Int32).toNatClampNeg := hR.2.2.2.2.2.2.1
  have hc : 116400 * n + 97 < 100000000 := by omega
  obtain ⟨q1, q2⟩ := hct (h := 2731) hn hl
  have q3 := fun a x1 => hpg (h := a) rfl hR hA x1
  have q4 := fun a x1 => hbk (h := a) rfl hR hA x1
  have q5 := fun a x1 => hst (h := a) rfl hR hA x1
  have q6 := fun a => hfc hq hc a
  have q7 := fun mh' (h1 : agH mh mh') => rwd_R (M' := M) hq h1 (fun _ _ => rfl) hu eh er bd4
  have q8 := fun mh' (h1 : agH mh mh') => bst_R (M' := M) hq h1 (fun _ _ => rfl) bd4
  have q9 := fun mh' (h1 : agH mh mh') => amp_R (M' := M) hq h1 (fun _ _ => rfl) (by omega)
  have qA := fun mh' (h1 : agH mh mh') a => hcd (m := mh') (tx := tx) (h := a) hL (by rw [h1 0 (by omega)]; exact h5) (fun i hi => by rw [h1 2 (by omega)]; exact ht i hi)
  have p3 : ∀ a, o_h_withPages mh a ∧ f_h_withPages mh a = itr (fun p a => itr (mx (fun w => f_r_ofPage M (Int32.ofNat p) (Int32.ofNat w))) a 6) a 40 := fun a => by
    unfold o_h_withPages f_h_withPages
    simp only [g_let_def]
    exact ⟨⟨(q3 a a).1, trivial⟩, (q3 a a).2⟩
  have p4 : ∀ a, o_h_withBlocks mh a ∧ f_h_withBlocks mh a = itr (fun p a => itr (mx (fun w => vA (M 1) 0 (8 * p + w))) (itr (mx (fun w => f_r_ofBlock M (Int32.ofNat p) (Int32.ofNat w))) a 8) 8) a 12 := fun a => by
    unfold o_h_withBlocks f_h_withBlocks
    simp only [g_let_def]
    exact ⟨⟨(q4 a a).1, trivial⟩, (q4 a a).2⟩
  have p5 : ∀ a, o_h_withStreams mh a ∧ f_h_withStreams mh a = itr (fun p a => itr (mx (fun w => f_r_ofStream M (Int32.ofNat p) (Int32.ofNat w))) a 5) a 5 := fun a => by
    unfold o_h_withStreams f_h_withStreams
    simp only [g_let_def]
    exact ⟨⟨(q5 a a).1, trivial⟩, (q5 a a).2⟩
  have g14 : ∀ (a : Int64) (z : Int64 × gM), z = f_h_withForecasts mh a → agH mh z.2 := fun a z hz => by rw [hz]; exact (q6 a).2.2
  have g16 : ∀ (m' : gM) (z : Int32 × gM), agH mh m' → z = f_h_ifRewritten m' (1 : Int32) → agH mh z.2 := fun m' z h1 hz => by rw [hz]; exact (q7 m' h1).2.2.1
  have g20 : ∀ (m' : gM) (z : Int32 × gM), agH mh m' → z = f_h_bestRule m' (2 : Int32) → agH mh z.2 := fun m' z h1 hz => by rw [hz]; exact (q8 m' h1).2.2.1
  constructor
  · unfold o_h_digest
    exact ⟨q1, gl fun z2 _ => ⟨trivial, gl fun z4 _ => ⟨trivial, gl fun z6 _ => ⟨(p3 z6).1, gl fun z8 _ => ⟨(p4 z8).1, gl fun z10 _ => ⟨(p5 z10).1, gl fun z12 _ => ⟨(q6 z12).1, gl fun z14 h14 => ⟨(q7 z14.2 (g14 z12 z14 h14)).1, gl fun z16 h16 => ⟨trivial, gl fun z18 _ => ⟨(q8 z16.2 (g16 z14.2 z16 (g14 z12 z14 h14) h16)).1, gl fun z20 h20 => ⟨trivial, gl fun z22 _ =>
      have g := g20 z16.2 z20 (g16 z14.2 z16 (g14 z12 z14 h14) h16) h20
      ⟨(q9 z20.2 g).1, (q9 z20.2 g).2.1, trivial, gl fun z26 _ => ⟨trivial, gl fun z28 _ => ⟨(qA z20.2 g z28).1, gl fun _ _ => trivial⟩⟩⟩⟩⟩⟩⟩⟩⟩⟩⟩⟩⟩⟩
  · obtain ⟨Q, hQd⟩ : ∃ Q : Int64 × gM → Prop, Q = fun r => r.1 = dg9 M u L tx ∧ agH mh r.2 := ⟨_, rfl⟩
    have key : Q (f_h_digest mh) := by
      unfold f_h_digest
      refine glq fun z2 h2 => glq fun z4 h4 => glq fun z6 h6 => glq fun z8 h8 => glq fun z10 h10 => glq fun z12 h12 => glq fun z14 h14 => glq fun z16 h16 => glq fun z18 h18 => glq fun z20 h20 => glq fun z22 h22 => glq fun z26 h26 => glq fun z28 h28 => glq fun z30 h30 => ?_
      have a14 := g14 z12 z14 h14
      have a16 := g16 z14.2 z16 a14 h16
      have a20 := g20 z16.2 z20 a16 h20
      have w2 : z2.1 = dg1 M := by rw [h2]; exact q2
      have w6 : z6 = dg2 M := by
        rw [h6, h4, w2, e0, e1]; rfl
      have w8 : z8 = dg3 M := by rw [h8, (p3 z6).2, w6]; rfl
      have w10 : z10 = dg4 M := by rw [h10, (p4 z8).2, w8]; rfl
      have w12 : z12 = dg5 M := by rw [h12, (p5 z10).2, w10]; rfl
      have w14 : z14.1 = dg6 M := by rw [h14, (q6 z12).2.1, w12]; rfl
      have w16 : z16.1 = (f_r_rewritten M (1 : Int32) (Int32.ofNat u)).1 := by rw [h16]; exact (q7 z14.2 a14).2.1
      have w20 : z20.1 = (f_r_best M (2 : Int32)).1 := by rw [h20]; exact (q8 z16.2 a16).2.1
      have w22 : z22 = dg7 M u := by rw [h22, h18, w14, w16, w20]; rfl
      have w5 : z20.2 0 5 = Int32.ofNat L := by rw [a20 0 (by omega)]; exact h5
      have w28 : z28 = dg8 M u L := by rw [h28, h26, w22, w5, (q9 z20.2 a20).2.2.1]; rfl
      have w30 : z30.1 = dg9 M u L tx := by rw [h30, (qA z20.2 a20 z28).2, w28]; rfl
      rw [hQd]
      exact ⟨w30, a20⟩
    rw [hQd] at key
    exact key
theorem dg3_flat (M : gM) : dg3 M = itr (mx (fun i => f_r_ofPage M (Int32.ofNat (i / 6)) (Int32.ofNat (i % 6)))) (dg2 M) 240 := by
  unfold dg3
  exact (itr_flat (g := fun p w => f_r_ofPage M (Int32.ofNat p) (Int32.ofNat w)) (M := 6) (by omega) 40).symm
theorem dg5_flat (M : gM) : dg5 M = itr (mx (fun i => f_r_ofStream M (Int32.ofNat (i / 5)) (Int32.ofNat (i % 5)))) (dg4 M) 25 := by
  unfold dg5
  exact (itr_flat (g := fun p w => f_r_ofStream M (Int32.ofNat p) (Int32.ofNat w)) (M := 5) (by omega) 5).symm
theorem dig_r {n u L : Nat} {mh M : gM} {tx : Nat → Int32} {n0 : gN} (hn : n < 512) (hl : Rl n mh M) (hu : u < 3) (eh : mh 19 (0 : Int32).toNatClampNeg = Int32.ofNat u) (er : M 1 (358 : Int32).toNatClampNeg = Int32.ofNat u) (hL : L ≤ 60) (h5 : M 0 5 = Int32.ofNat L) (ht : ∀ i, i < L → M 4 i = tx i) (mr : gM) (eM : g_set mr 0 (upd (mr 0) 6 (0 : Int32)) = M) :
    o_r_digest mr n0 ∧ (f_r_digest mr n0).1 = dg9 M u L tx ∧ agR M (f_r_digest mr n0).2.1 := by
  obtain ⟨bd1, bd3⟩ := bd hn
  have bd4 := bd2 hn
  have hq := hl.1
  obtain ⟨hR, hT⟩ := selQ hq
  have hA := hT.1
  have hc : 116400 * n + 97 < 100000000 := by omega
  have hH : agH mh mh := fun _ _ => rfl
  have q2 := fun n1 => rct (n0 := n1) hn hl
  have q3 := fun n1 => rpg (n0 := n1) rfl hR hA
  have q4 := fun n1 => rbk (n0 := n1) rfl hR hA
  have q5 := fun n1 => rst (n0 := n1) rfl hR hA
  have q6 := fun n1 => rfc (n0 := n1) hq hc
  have q7 := fun M' (h1 : agR M M') => (rwd_R hq hH h1 hu eh er bd4).2.2.2
  have q8 := fun M' (h1 : agR M M') => (bst_R hq hH h1 bd4).2.2.2
  have q9 := fun M' (h1 : agR M M') => (amp_R hq hH h1 (by omega)).2.2.2
  have qA := fun M' (h1 : agR M M') n1 => rcd (m := M') (tx := tx) (n0 := n1) hL (by rw [h1 0 (by omega)]; exact h5) (fun i hi => by rw [h1 4 (by omega)]; exact ht i hi)
  have g16 : ∀ (n1 : gN) (z : Int32 × gM × gN), z = run L_r_digest_144 400 ((0 : Int32), M, n1) → agR M z.2.1 := fun n1 z hz => by rw [hz]; exact (q6 n1).2.2
  have g18 : ∀ (m' : gM) (z : Int32 × gM), agR M m' → z = f_r_rewritten m' (1 : Int32) (m' 1 (358 : Int32).toNatClampNeg) → agR M z.2 := fun m' z h1 hz => by rw [hz]; exact (q7 m' h1).2.2
  have g22 : ∀ (m' : gM) (z : Int32 × gM), agR M m' → z = f_r_best m' (2 : Int32) → agR M z.2 := fun m' z h1 hz => by rw [hz]; exact (q8 m' h1).2.2
  constructor
  · unfold o_r_digest
    rw [eM]
    refine gl fun z1 h1 => ?_
    subst h1
    exact gl fun z2 _ => ⟨(q2 z2).1, gl fun z4 _ => ⟨mix_o _ _ _, gl fun z6 _ => ⟨mix_o _ _ _, gl fun z8 _ => ⟨(q3 z8).1, gl fun z10 _ => ⟨(q4 z10.2).1, gl fun z12 _ => ⟨(q5 z12.2).1, gl fun z14 _ => ⟨(q6 z14.2).1, gl fun z16 h16 => ⟨(q7 z16.2.1 (g16 z14.2 z16 h16)).1, gl fun z18 h18 => ⟨mix_o _ _ _, gl fun z20 _ => ⟨(q8 z18.2 (g18 z16.2.1 z18 (g16 z14.2 z16 h16) h18)).1, gl fun z22 h22 =>
      have g := g22 z18.2 z22 (g18 z16.2.1 z18 (g16 z14.2 z16 h16) h18) h22
      ⟨mix_o _ _ _, gl fun z24 _ => ⟨(q9 z22.2 g).1, (q9 z22.2 g).2.1, mix_o _ _ _, gl fun z28 _ => ⟨mix_o _ _ _, gl fun z30 _ => ⟨(qA z22.2 g z30).1, gl fun _ _ => trivial⟩⟩⟩⟩⟩⟩⟩⟩⟩⟩⟩⟩⟩⟩
  · obtain ⟨Q, hQd⟩ : ∃ Q : Int64 × gM × gN → Prop, Q = fun r => r.1 = dg9 M u L tx ∧ agR M r.2.1 := ⟨_, rfl⟩
    have key : Q (f_r_digest mr n0) := by
      unfold f_r_digest
      rw [eM]
      refine glq fun z1 h1 => ?_
      subst h1
      refine glq fun z2 h2 => glq fun z4 h4 => glq fun z6 h6 => glq fun z8 h8 => glq fun z10 h10 => glq fun z12 h12 => glq fun z14 h14 => glq fun z16 h16 => glq fun z18 h18 => glq fun z20 h20 => glq fun z22 h22 => glq fun z24 h24 => glq fun z28 h28 => glq fun z30 h30 => glq fun z32 h32 => ?_
      have a16 := g16 z14.2 z16 h16
      have a18 := g18 z16.2.1 z18 a16 h18
      have a22 := g22 z18.2 z22 a18 h22
      have w2 : z2 0 11 = 2731 := by rw [h2]; rfl
      have w4 : z4.2 0 11 = dg1 z1 := by rw [h4, (q2 z2).2, w2]; rfl
      have w8 : z8 0 11 = dg2 z1 := by rw [h8, mix_v, h6, mix_v, w4]; rfl
      have w10 : z10.2 0 11 = dg3 z1 := by rw [h10, (q3 z8).2, w8, ← dg3_flat]
      have w12 : z12.2 0 11 = dg4 z1 := by rw [h12, (q4 z10.2).2, w10]; rfl
      have w14 : z14.2 0 11 = dg5 z1 := by rw [h14, (q5 z12.2).2, w12, ← dg5_flat]
      have w16 : z16.2.2 0 11 = dg6 z1 := by rw [h16, (q6 z14.2).2.1, w14]; rfl
      have w18 : z18.1 = (f_r_rewritten z1 (1 : Int32) (Int32.ofNat u)).1 := by rw [h18]; exact (q7 z16.2.1 a16).2.1
      have w22 : z22.1 = (f_r_best z1 (2 : Int32)).1 := by rw [h22]; exact (q8 z18.2 a18).2.1
      have w24 : z24 0 11 = dg7 z1 u := by rw [h24, mix_v, h20, mix_v, w16, w18, w22]; rfl
      have w5 : z22.2 0 5 = Int32.ofNat L := by rw [a22 0 (by omega)]; exact h5
      have w30 : z30 0 11 = dg8 z1 u L := by rw [h30, mix_v, h28, mix_v, w24, w5, (q9 z22.2 a22).2.2]; rfl
      have w32 : z32.2 0 11 = dg9 z1 u L tx := by rw [h32, (qA z22.2 a22 z30).2, w30]; rfl
      rw [hQd]
      exact ⟨w32, a22⟩
    rw [hQd] at key
    exact key
theorem op_digest_ok {n : Nat} {mh mr : gM} (hn : n < 512) (h : Rl n mh mr) : op_digest (Rl (n + 1)) mh mr := by
  have h' : Rl n mh (g_set mr 0 (upd (mr 0) 6 (0 : Int32))) := Rl_r (mr := mr) rfl rfl rfl rfl rfl h
  obtain ⟨hR, hT⟩ := selQ h'.1
  have hu : ∃ u, u < 3 ∧ vA (mr 1) 13 0 = Int32.ofNat u := by
    obtain ⟨-, -, -, -, -, -, -, -, -, z | z | z, -⟩ := hT.1
    · exact ⟨0, by omega, z⟩
    · exact ⟨1, by omega, z⟩
    · exact ⟨2, by omega, z⟩
  obtain ⟨u, hu, eu⟩ := hu
  have eh : mh 19 (0 : Int32).toNatClampNeg = Int32.ofNat u := by rw [← eu]; exact hR.2.2.2.2.2.1
  have er : (g_set mr 0 (upd (mr 0) 6 (0 : Int32))) 1 (358 : Int32).toNatClampNeg = Int32.ofNat u := eu
  obtain ⟨L, hL, x1, x2, x3⟩ := h'.2.2
  obtain ⟨a1, a2, a3⟩ := dig_h (tx := mh 2) hn h' hu eh er hL x1 (fun _ _ => rfl)
  refine ⟨a1, fun nr => ?_⟩
  obtain ⟨b1, b2, b3⟩ := dig_r (tx := mh 2) (n0 := nr) hn h' hu eh er hL x2 (fun i hi => (x3 i hi).1.symm) mr rfl
  exact ⟨b1, a2.trans b2.symm, Rl_up (Rl_t h' a3 b3) (by omega)⟩
