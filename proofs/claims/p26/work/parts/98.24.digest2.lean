/-! the digest, put together -/
def agH (mh mh' : gM) : Prop := ∀ x, ¬ (20 ≤ x ∧ x < 36) → mh' x = mh x
def agR (M M' : gM) : Prop := ∀ x, x ≠ 2 → M' x = M x
theorem ag_hQ {c : Nat} {mh mh' M M' : gM} (hq : hQ c 4 mh (M 1)) (h1 : agH mh mh') (h2 : agR M M') : hQ c 4 mh' (M' 1) := by
  rw [h2 1 (by omega)]
  exact hQ_cell (b := 4) (m := mh) (fun j hj1 hj2 => h1 _ (by omega)) (congrFun (h1 4 (by omega)) 15) (congrFun (h1 4 (by omega)) 16) (fun _ _ => rfl) hq
/-- what a write would do, by hint and column -/
noncomputable def fcV (M : gM) (x w : Nat) : Int32 := (f_r_written M (0 : Int32) (Int32.ofNat x) (Int32.ofNat w)).1
theorem fc_R {c x w : Nat} {mh mh' M M' : gM} (hq : hQ c 4 mh (M 1)) (h1 : agH mh mh') (h2 : agR M M') (hx : x < 4) (hw : w < 3) (hc : c + 97 < 100000000) :
    o_h_tryWriting mh' (0 : Int32) (Int32.ofNat x) ∧ agH mh (f_h_tryWriting mh' (0 : Int32) (Int32.ofNat x)) ∧ o_h_forecast (f_h_tryWriting mh' (0 : Int32) (Int32.ofNat x)) (0 : Int32) (Int32.ofNat w) ∧ f_h_forecast (f_h_tryWriting mh' (0 : Int32) (Int32.ofNat x)) (0 : Int32) (Int32.ofNat w) = fcV M x w ∧
    o_r_written M' (0 : Int32) (Int32.ofNat x) (Int32.ofNat w) ∧ (f_r_written M' (0 : Int32) (Int32.ofNat x) (Int32.ofNat w)).1 = fcV M x w ∧ agR M (f_r_written M' (0 : Int32) (Int32.ofNat x) (Int32.ofNat w)).2 := by
  have e0 : Int32.ofNat 0 = (0 : Int32) := rfl
  obtain ⟨a1, a2, a3⟩ := try_RS (p := 0) (h := x) (ag_hQ hq h1 h2) (by omega) hx hc
  obtain ⟨b1, b2, b3⟩ := try_RS (p := 0) (h := x) (ag_hQ hq h1 (M' := M) (fun _ _ => rfl)) (by omega) hx hc
  obtain ⟨a4, a5, a6, a7⟩ := a3 w hw
  obtain ⟨b4, b5, b6, b7⟩ := b3 w hw
  rw [e0] at a1 a2 a4 a5 a6 a7 b6
  refine ⟨a1, fun y hy => by rw [a2 y hy, h1 y hy], a4, b6, a5, ?_, fun y hy => by rw [a7 y hy, h2 y hy]⟩
  rw [← a6]; exact b6
theorem hfc1 {c x : Nat} {mh mh' M : gM} {h : Int64} (hq : hQ c 4 mh (M 1)) (h1 : agH mh mh') (hx : x < 4) (hc : c + 97 < 100000000) (x1 : Int64) (x5 : Int32) :
    rOk (L_h_withForecasts_21 (f_h_tryWriting mh' (0 : Int32) (Int32.ofNat x)) x1 x5) (K_h_withForecasts_21 (f_h_tryWriting mh' (0 : Int32) (Int32.ofNat x)) x1 x5) 400 (h, (0 : Int32)) ∧ (run (L_h_withForecasts_21 (f_h_tryWriting mh' (0 : Int32) (Int32.ofNat x)) x1 x5) 400 (h, (0 : Int32))).1 = itr (mx (fcV M x)) h 3 := by
  refine foldC (by omega) (fun k a hk => ?_) (fun a => ?_)
  · have n1 : ¬ ((3 : Int32) ≤ Int32.ofNat k) := fun w => by have := (leI (a := 3) (by omega) (by omega)).mp w; omega
    obtain ⟨-, -, v1, v2, -⟩ := fc_R (M' := M) hq h1 (fun _ _ => rfl) hx hk hc
    unfold L_h_withForecasts_21 K_h_withForecasts_21
    simp only [g_let_def, if_neg n1, e1r, v2]
    exact ⟨⟨v1, trivial, trivial⟩, by first | rfl | trivial⟩
  · have n1 : (3 : Int32) ≤ Int32.ofNat 3 := by decide
    unfold L_h_withForecasts_21 K_h_withForecasts_21
    simp only [if_pos n1]
    first
      | exact ⟨trivial, rfl⟩
      | exact ⟨trivial, trivial⟩
theorem hfc {c : Nat} {mh M : gM} (hq : hQ c 4 mh (M 1)) (hc : c + 97 < 100000000) (a : Int64) :
    o_h_withForecasts mh a ∧ (f_h_withForecasts mh a).1 = itr (fun x a => itr (mx (fcV M x)) a 3) a 4 ∧ agH mh (f_h_withForecasts mh a).2 := by
  have hL := run_count (f := L_h_withForecasts_5 a) (K := K_h_withForecasts_5 a) (N := 4) (fuel := 400) (z := (a, (0 : Int32), mh)) (fun k (z : Int64 × Int32 × gM) => z.1 = itr (fun x a => itr (mx (fcV M x)) a 3) a k ∧ z.2.1 = Int32.ofNat k ∧ agH mh z.2.2) (fun (z : Int64 × Int32 × gM) => z.1 = itr (fun x a => itr (mx (fcV M x)) a 3) a 4 ∧ agH mh z.2.2) (by omega) ⟨rfl, rfl, fun _ _ => rfl⟩ (fun k z hk hz => ?_) (fun z hz => ?_)
  · obtain ⟨k1, k2, k3⟩ := hL
    unfold o_h_withForecasts f_h_withForecasts
    simp only [g_let_def]
    exact ⟨⟨k1, trivial⟩, k2, k3⟩
  · obtain ⟨z1, z2, zm⟩ := z
    obtain ⟨hz1, hz2, hz3⟩ := hz
    dsimp only at hz1 hz2 hz3
    subst hz2
    have n1 : ¬ ((4 : Int32) ≤ Int32.ofNat k) := fun w => by have := (leI (a := 4) (by omega) (by omega)).mp w; omega
    obtain ⟨v1, v2, -⟩ := fc_R (M' := M) (w := 0) hq hz3 (fun _ _ => rfl) hk (by omega) hc
    obtain ⟨v3, v4⟩ := hfc1 (h := z1) hq hz3 hk hc a (Int32.ofNat k)
    unfold L_h_withForecasts_5 K_h_withForecasts_5
    simp only [g_let_def, if_neg n1, e1r, v4]
    refine ⟨⟨v1, v3, trivial⟩, trivial, ?_, trivial, v2⟩
    rw [hz1]; rfl
  · obtain ⟨z1, z2, zm⟩ := z
    obtain ⟨hz1, hz2, hz3⟩ := hz
    dsimp only at hz1 hz2 hz3
    subst hz2
    have n1 : (4 : Int32) ≤ Int32.ofNat 4 := by decide
    unfold L_h_withForecasts_5 K_h_withForecasts_5
    simp only [if_pos n1]
    exact ⟨trivial, trivial, hz1, hz3⟩
theorem rfc {c : Nat} {mh M : gM} (hq : hQ c 4 mh (M 1)) (hc : c + 97 < 100000000) (n0 : gN) :
    rOk L_r_digest_144 K_r_digest_144 400 ((0 : Int32), M, n0) ∧ (run L_r_digest_144 400 ((0 : Int32), M, n0)).2.2 0 11 = itr (fun x a => itr (mx (fcV M x)) a 3) (n0 0 11) 4 ∧ agR M (run L_r_digest_144 400 ((0 : Int32), M, n0)).2.1 := by
  rw [← itr_flat (g := fcV M) (M := 3) (by omega) 4]
  refine run_count (N := 12) (fuel := 400) (fun k (z : Int32 × gM × gN) => z.1 = Int32.ofNat k ∧ z.2.2 0 11 = itr (mx (fun i => fcV M (i / 3) (i % 3))) (n0 0 11) k ∧ agR M z.2.1) (fun (z : Int32 × gM × gN) => z.2.2 0 11 = itr (mx (fun i => fcV M (i / 3) (i % 3))) (n0 0 11) (4 * 3) ∧ agR M z.2.1) (by omega) ⟨rfl, rfl, fun _ _ => rfl⟩ (fun k z hk hz => ?_) (fun z hz => ?_)
  · obtain ⟨z1, zm, zn⟩ := z
    obtain ⟨hz1, hz2, hz3⟩ := hz
    dsimp only at hz1 hz2 hz3
    subst hz1
    have n1 : ¬ ((12 : Int32) ≤ Int32.ofNat k) := fun w => by have := (leI (a := 12) (by omega) (by omega)).mp w; omega
    obtain ⟨d1, d2⟩ := dm3 k hk
    obtain ⟨-, -, -, -, v1, v2, v3⟩ := fc_R (x := k / 3) (w := k % 3) hq (fun _ _ => rfl) hz3 (by omega) (by omega) hc
    unfold L_r_digest_144 K_r_digest_144
    simp only [g_let_def, if_neg n1, e1r, d1, d2]
    refine ⟨⟨v1, mix_o _ _ _, trivial⟩, trivial, trivial, ?_, v3⟩
    rw [mix_v, hz2, v2]; rfl
  · obtain ⟨z1, zm, zn⟩ := z
    obtain ⟨hz1, hz2, hz3⟩ := hz
    dsimp only at hz1 hz2 hz3
    subst hz1
    have n1 : (12 : Int32) ≤ Int32.ofNat 12 := by decide
    unfold L_r_digest_144 K_r_digest_144
    simp only [if_pos n1]
    exact ⟨trivial, trivial, hz2, hz3⟩
/-- the letters of the buffer -/
theorem hcd {L : Nat} {m : gM} {tx : Nat → Int32} {h : Int64} (hL : L ≤ 60) (h5 : m 0 5 = Int32.ofNat L) (ht : ∀ i, i < L → m 2 i = tx i) :
    rOk (L_h_digest_129 m) (K_h_digest_129 m) 400 (h, (0 : Int32)) ∧ (run (L_h_digest_129 m) 400 (h, (0 : Int32))).1 = itr (mx tx) h L := by
  refine foldC (by omega) (fun k a hk => ?_) (fun a => ?_)
  · have n1 : ¬ (m 0 5 ≤ Int32.ofNat k) := fun w => by rw [h5] at w; have := (leI (by omega) (by omega)).mp w; omega
    have e : m 2 (Int32.ofNat k).toNatClampNeg = tx k := by rw [nI_ix (by omega)]; exact ht k hk
    unfold L_h_digest_129 K_h_digest_129
    simp only [g_let_def, if_neg n1, e1r, e]
    exact ⟨⟨vp_in_nI (by omega) (by omega), trivial, trivial⟩, by first | rfl | trivial⟩
  · have n1 : m 0 5 ≤ Int32.ofNat L := by rw [h5]; exact (leI (by omega) (by omega)).mpr (Nat.le_refl _)
    unfold L_h_digest_129 K_h_digest_129
    simp only [if_pos n1]
    first
      | exact ⟨trivial, rfl⟩
      | exact ⟨trivial, trivial⟩
theorem rcd {L : Nat} {m : gM} {tx : Nat → Int32} {n0 : gN} (hL : L ≤ 60) (h5 : m 0 5 = Int32.ofNat L) (ht : ∀ i, i < L → m 4 i = tx i) :
    rOk (L_r_digest_222 m) (K_r_digest_222 m) 400 ((0 : Int32), n0) ∧ (run (L_r_digest_222 m) 400 ((0 : Int32), n0)).2 0 11 = itr (mx tx) (n0 0 11) L := by
  refine foldR (by omega) (fun k n hk => ?_) (fun n => ?_)
  · have n1 : ¬ (m 0 5 ≤ Int32.ofNat k) := fun w => by rw [h5] at w; have := (leI (by omega) (by omega)).mp w; omega
    have e : m 4 (Int32.ofNat k).toNatClampNeg = tx k := by rw [nI_ix (by omega)]; exact ht k hk
    unfold L_r_digest_222 K_r_digest_222
    simp only [g_let_def, if_neg n1, e1r, e]
    exact ⟨⟨vp_in_nI (by omega) (by omega), mix_o _ _ _, trivial⟩, trivial, trivial, mix_v _ _ _⟩
  · have n1 : m 0 5 ≤ Int32.ofNat L := by rw [h5]; exact (leI (by omega) (by omega)).mpr (Nat.le_refl _)
    unfold L_r_digest_222 K_r_digest_222
    simp only [if_pos n1]
    first
      | exact ⟨trivial, rfl⟩
      | exact ⟨trivial, trivial⟩
/-- the bits of the amplification -/
theorem amp_R {n : Nat} {mh mh' M M' : gM} (hq : hQ (116400 * n) 4 mh (M 1)) (h1 : agH mh mh') (h2 : agR M M') (hn : n ≤ 512) :
    o_h_amplification mh' ∧ o_h_bitsOf (f_h_amplification mh') ∧ f_h_bitsOf (f_h_amplification mh') = f_j_d2l (f_r_amplified M) ∧ o_r_amplified M' ∧ o_j_d2l (f_r_amplified M') ∧ f_j_d2l (f_r_amplified M') = f_j_d2l (f_r_amplified M) := by
  have eM : f_r_amplified M' = f_r_amplified M := by
    unfold f_r_amplified
    rw [h2 1 (by decide)]
  obtain ⟨a1, a2, a3, d, E, k1, k2, k3, k4, k5⟩ := ampl_R (ag_hQ hq h1 h2) (Nat.le_refl _) hn
  obtain ⟨b1, b2⟩ := bits_W k2 k3 k4 k5
  obtain ⟨c1, c2⟩ := d2l_W k2 k3 (show 1 ≤ E by omega) (by omega)
  refine ⟨a1, ?_, ?_, a2, ?_, by rw [eM]⟩
  · rw [a3, k1]; exact b1
  · rw [← eM, a3, k1, b2, c1]
  · rw [k1]; exact c2
/-- the rule that is set, tried on what would be written again; and the best rule -/
theorem rwd_R {c u : Nat} {mh mh' M M' : gM} (hq : hQ c 4 mh (M 1)) (h1 : agH mh mh') (h2 : agR M M') (hu : u < 3) (eh : mh 19 (0 : Int32).toNatClampNeg = Int32.ofNat u) (er : M 1 (358 : Int32).toNatClampNeg = Int32.ofNat u) (hc : c + 97 * 361 < 100000000) :
    o_h_ifRewritten mh' (1 : Int32) ∧ (f_h_ifRewritten mh' (1 : Int32)).1 = (f_r_rewritten M (1 : Int32) (Int32.ofNat u)).1 ∧ agH mh (f_h_ifRewritten mh' (1 : Int32)).2 ∧ o_r_rewritten M' (1 : Int32) (M' 1 (358 : Int32).toNatClampNeg) ∧ (f_r_rewritten M' (1 : Int32) (M' 1 (358 : Int32).toNatClampNeg)).1 = (f_r_rewritten M (1 : Int32) (Int32.ofNat u)).1 ∧ agR M (f_r_rewritten M' (1 : Int32) (M' 1 (358 : Int32).toNatClampNeg)).2 := by
  have e1 : Int32.ofNat 1 = (1 : Int32) := rfl
  have eh' : mh' 19 (0 : Int32).toNatClampNeg = Int32.ofNat u := by rw [h1 19 (by omega)]; exact eh
  have er' : M' 1 (358 : Int32).toNatClampNeg = Int32.ofNat u := by rw [h2 1 (by omega)]; exact er
  obtain ⟨a1, a2, a3, a4, a5⟩ := rewr_RS (k := 1) (u := u) (ag_hQ hq h1 h2) (by omega) hu hc
  obtain ⟨b1, b2, b3, b4, b5⟩ := rewr_RS (k := 1) (u := u) (ag_hQ hq h1 (M' := M) (fun _ _ => rfl)) (by omega) hu hc
  rw [e1] at a1 a2 a3 a4 a5 b3
  have c1 : ¬ ((1 : Int32) < (1 : Int32)) := by decide
  have c2 : (1 : Int32) ≤ (9 : Int32) := by decide
  rw [er']
  unfold o_h_ifRewritten f_h_ifRewritten
  simp only [g_let_def, if_neg c1, if_pos c2, eh']
  refine ⟨⟨a1, trivial⟩, b3, fun y hy => by rw [a4 y hy, h1 y hy], a2, ?_, fun y hy => by rw [a5 y hy, h2 y hy]⟩
  rw [← a3]; exact b3
theorem bst_R {c : Nat} {mh mh' M M' : gM} (hq : hQ c 4 mh (M 1)) (h1 : agH mh mh') (h2 : agR M M') (hc : c + 97 * 361 < 100000000) :
    o_h_bestRule mh' (2 : Int32) ∧ (f_h_bestRule mh' (2 : Int32)).1 = (f_r_best M (2 : Int32)).1 ∧ agH mh (f_h_bestRule mh' (2 : Int32)).2 ∧ o_r_best M' (2 : Int32) ∧ (f_r_best M' (2 : Int32)).1 = (f_r_best M (2 : Int32)).1 ∧ agR M (f_r_best M' (2 : Int32)).2 := by
  have e1 : Int32.ofNat 2 = (2 : Int32) := rfl
  obtain ⟨a1, a2, a3, a4, a5⟩ := best_RS (k := 2) (ag_hQ hq h1 h2) (by omega) (by omega) hc
  obtain ⟨b1, b2, b3, b4, b5⟩ := best_RS (k := 2) (ag_hQ hq h1 (M' := M) (fun _ _ => rfl)) (by omega) (by omega) hc
  rw [e1] at a1 a2 a3 a4 a5 b3
  refine ⟨a1, b3, fun y hy => by rw [a4 y hy, h1 y hy], a2, ?_, fun y hy => by rw [a5 y hy, h2 y hy]⟩
  rw [← a3]; exact b3
