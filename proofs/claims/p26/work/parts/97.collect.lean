/-! a block is collected, on both sides -/
theorem jR_13 {m A : gM} {j : Nat} {x : Int32} (h : jR m A) (h0 : j ≠ 0) (h1 : j ≠ 1) (h5 : j ≠ 5) : jR m (sIn A 13 j x) := by
  obtain ⟨R1, R2, R3, R4, R5, R6, R7, R8, R9⟩ := h
  refine ⟨R1, R2, ?_, R4, R5, ?_, ?_, R8, ?_⟩
  · rw [show cN (sIn A 13 j x) = cN A from cN_c rfl, show vL (sIn A 13 j x) = vL A from vL_c rfl rfl]; exact R3
  · show _ = upd (A 13) j x 0; rw [upd_at, if_neg (fun w => h0 w.symm)]; exact R6
  · show _ = upd (A 13) j x 1; rw [upd_at, if_neg (fun w => h1 w.symm)]; exact R7
  · show _ = upd (A 13) j x 5; rw [upd_at, if_neg (fun w => h5 w.symm)]; exact R9
theorem jV_13 {A : gM} {e t xb xp j : Nat} {x : Int32} (h : jV e t xb xp A) (h0 : j ≠ 0) (h1 : j ≠ 1) (h5 : j ≠ 5) : jV e t xb xp (sIn A 13 j x) := by
  refine jV_c (A := A) rfl rfl rfl rfl rfl rfl rfl rfl ?_ ?_ h
  · show upd (A 13) j x 5 = _; rw [upd_at, if_neg (fun w => h5 w.symm)]
  · obtain ⟨-, -, -, -, -, -, -, -, -, s⟩ := h
    unfold jS
    rw [show sIn A 13 j x 13 0 = A 13 0 from by show upd (A 13) j x 0 = _; rw [upd_at, if_neg (fun w => h0 w.symm)], show sIn A 13 j x 13 1 = A 13 1 from by show upd (A 13) j x 1 = _; rw [upd_at, if_neg (fun w => h1 w.symm)]]
    exact s
theorem collect_loop {mr m A0 : gM} {e t B : Nat} (hr : aR mr = A0) (hR : jR m A0) (hA : jV e t 99 99 A0) (hB : B < 12) (hful : ∀ j, j < 8 → A0 0 (8 * B + j) ≠ -1) (h6 : A0 6 B = 2) (hfr : 1 ≤ frN A0) (ht : t + 8 < 2147483600) :
    rOk (L_r_collects_7 (Int32.ofNat B)) (K_r_collects_7 (Int32.ofNat B)) 400 ((0 : Int32), Int32.ofNat (8 * B), mr) ∧ rOk (L_s_collectBlock_2 (Int32.ofNat B)) (K_s_collectBlock_2 (Int32.ofNat B)) 400 ((0 : Int32), m) ∧
    ∃ d, (run (L_r_collects_7 (Int32.ofNat B)) 400 ((0 : Int32), Int32.ofNat (8 * B), mr)).1 = Int32.ofNat d ∧ jR (run (L_s_collectBlock_2 (Int32.ofNat B)) 400 ((0 : Int32), m)).2 (aR (run (L_r_collects_7 (Int32.ofNat B)) 400 ((0 : Int32), Int32.ofNat (8 * B), mr)).2.2) ∧ cI B e t A0 8 d (aR (run (L_r_collects_7 (Int32.ofNat B)) 400 ((0 : Int32), Int32.ofNat (8 * B), mr)).2.2) := by
  have hav : 8 ≤ avN 4 A0 := by unfold avN; omega
  refine run2 (K := K_r_collects_7 (Int32.ofNat B)) (K' := K_s_collectBlock_2 (Int32.ofNat B)) (n := 8) (fun n (z : Int32 × Int32 × gM) (w : Int32 × gM) => ∃ i d, n + i = 8 ∧ z.1 = Int32.ofNat d ∧ z.2.1 = Int32.ofNat (8 * B + i) ∧ w.1 = Int32.ofNat i ∧ jR w.2 (aR z.2.2) ∧ cI B e t A0 i d (aR z.2.2)) (fun (z : Int32 × Int32 × gM) (w : Int32 × gM) => ∃ d, z.1 = Int32.ofNat d ∧ jR w.2 (aR z.2.2) ∧ cI B e t A0 8 d (aR z.2.2)) (by omega) (by omega) ?_ (fun n z w hI => ?_)
  · refine ⟨0, 0, rfl, rfl, rfl, rfl, by rw [hr]; exact hR, ?_⟩
    rw [hr]
    exact ⟨hA, fun j _ => rfl, fun j _ => ⟨fun w => by omega, fun _ => rfl⟩, h6, rfl, rfl, rfl, fun j _ => rfl, (Int32.add_zero _).symm, rfl, rfl⟩
  · obtain ⟨z1, z2, zm⟩ := z
    obtain ⟨w1, wm⟩ := w
    obtain ⟨i, d, hn, hz1, hz2, hw1, hRi, hc⟩ := hI
    dsimp only at hz1 hz2 hw1 hRi hc
    subst hz1
    subst hz2
    subst hw1
    have hia : jA (aR zm) := hc.1.1
    by_cases hi : i < 8
    · have hk : 8 * B + i < 96 := by omega
      have hlt : ¬ (Int32.ofNat (8 * B + 8) ≤ Int32.ofNat (8 * B + i)) := by rw [leI (by omega) (by omega)]; omega
      have hlt2 : ¬ ((8 : Int32) ≤ Int32.ofNat i) := by intro h; have := (leI (a := 8) (by omega) (by omega)).mp h; omega
      obtain ⟨v1, v2⟩ := isValid_A hia hk
      obtain ⟨u1, u2⟩ := validPageAt_S hRi hia hk
      have hv : vd (aR zm) (8 * B + i) = 0 ∨ vd (aR zm) (8 * B + i) = 1 := by
        have := vd_le (aR zm) (8 * B + i); have := bN_le (aR zm) (8 * B + i); omega
      rcases hv with hv | hv
      · have u3 : f_s_validPageAt wm (Int32.ofNat (8 * B + i)) = -1 := by rw [u1, hv]; rfl
        have v3 : f_r_isValid zm (Int32.ofNat (8 * B + i)) = 0 := by rw [v1, hv]; rfl
        unfold L_r_collects_7 K_r_collects_7 L_s_collectBlock_2 K_s_collectBlock_2
        simp only [g_let_def, e8l, e8p, e8r, nI_plus2, if_neg hlt, if_neg hlt2, if_pos v3, u3, if_true, e1r]
        exact ⟨⟨v2, trivial⟩, ⟨u2, trivial⟩, Or.inl ⟨trivial, trivial, 7 - i, by omega, i + 1, d, by omega, rfl, rfl, rfl, hRi, cI_skip hc hi hv⟩⟩
      · have hx : ∃ p, p < 40 ∧ aR zm 0 (8 * B + i) = Int32.ofNat p := by
          rcases hia _ hk with q | q
          · unfold vd at hv; rw [if_pos q] at hv; omega
          · exact q
        obtain ⟨p, hp, h0⟩ := hx
        obtain ⟨h, hh, h2p, hm2, hav1, s1, s2, s3, s4⟩ := cI_move hc hRi hB hi hv hp h0 hav hful ht
        have u3 : f_s_validPageAt wm (Int32.ofNat (8 * B + i)) = Int32.ofNat p := by rw [u1, hv, h0]; rfl
        have v3 : ¬ (f_r_isValid zm (Int32.ofNat (8 * B + i)) = 0) := by rw [v1, hv]; decide
        have n1 := nI_ne1 (n := p) (by omega)
        obtain ⟨r1, r2⟩ := prog_ref (mr := zm) (s := 4) rfl hc.1 hp (by omega) hav1
        have e4 : Int32.ofNat 4 = (4 : Int32) := rfl
        rw [e4] at r1 r2
        have r3 : zm 0 (Int32.ofNat (8 * B + i)).toNatClampNeg = Int32.ofNat p := by rw [rg0 (m := zm) hk, h0]
        have ip := nI_ix (show p < 2147483648 by omega)
        have ih := nI_ix (show h < 2147483648 by omega)
        have vp := vp_in_nI hp (show 40 < 2 ^ 31 by omega)
        have vh := vp_in_nI (show h < 5 by omega) (show 5 < 2 ^ 31 by omega)
        have hg : ∀ (X : gM) (f g : Nat → Int32), (g_set (g_set X 4 f) 5 g) 2 = X 2 := fun X f g => rfl
        have hpg2 : pgA (aR zm) p 4 2 p = Int32.ofNat h := by
          have q : pgA (aR zm) p 4 2 = aR zm 2 := by
            unfold pgA; split
            · exact (prA_f).1
            · exact (prA_f).1
          rw [q]; exact h2p
        generalize hF : f_r_programs zm (Int32.ofNat p) (4 : Int32) = F at *
        -- the three counters of the reference
        have hz14 : f_r_of (g_set (g_set F 0 (upd (F 0) (((144 : Int32) + ((5 : Int32) * Int32.ofNat p)) + (3 : Int32)).toNatClampNeg ((F 0 (((144 : Int32) + ((5 : Int32) * Int32.ofNat p)) + (3 : Int32)).toNatClampNeg) + (1 : Int32)))) 0 (upd ((g_set F 0 (upd (F 0) (((144 : Int32) + ((5 : Int32) * Int32.ofNat p)) + (3 : Int32)).toNatClampNeg ((F 0 (((144 : Int32) + ((5 : Int32) * Int32.ofNat p)) + (3 : Int32)).toNatClampNeg) + (1 : Int32)))) 0) (((144 : Int32) + ((5 : Int32) * Int32.ofNat p)) + (4 : Int32)).toNatClampNeg (((g_set F 0 (upd (F 0) (((144 : Int32) + ((5 : Int32) * Int32.ofNat p)) + (3 : Int32)).toNatClampNeg ((F 0 (((144 : Int32) + ((5 : Int32) * Int32.ofNat p)) + (3 : Int32)).toNatClampNeg) + (1 : Int32)))) 0 (((144 : Int32) + ((5 : Int32) * Int32.ofNat p)) + (4 : Int32)).toNatClampNeg) + (1 : Int32)))) (Int32.ofNat p) (1 : Int32) = Int32.ofNat h := by
          rw [(of_A2 hp).1, rs5 hp, rs4 hp, r1]; exact hpg2
        unfold L_r_collects_7 K_r_collects_7 L_s_collectBlock_2 K_s_collectBlock_2
        simp only [g_let_def, e8l, e8p, e8r, nI_plus2, if_neg hlt, if_neg hlt2, if_neg v3, r3, u3, if_neg n1, ip, hF, hz14, hg, hm2, ih, e1r]
        refine ⟨⟨v2, ro0 hk, r2, ro4 hp, ro4 hp, ro5 hp, ro5 hp, (of_A2 hp).2, ro12 hh, ro12 hh, trivial⟩, ⟨u2, vp, vp, vp, vp, vp, vh, vh, s1, s2, trivial⟩, Or.inl ⟨trivial, trivial, 7 - i, by omega, i + 1, d + 1, by omega, rfl, rfl, rfl, ?_, ?_⟩⟩
        · simp only [rs12 hh, rg12 hh, rs5 hp, rg5 hp, rs4 hp, rg4 hp, r1]; exact s3
        · simp only [rs12 hh, rg12 hh, rs5 hp, rg5 hp, rs4 hp, rg4 hp, r1]; exact s4
    · have : i = 8 := by omega
      subst this
      have hle : (Int32.ofNat (8 * B + 8) ≤ Int32.ofNat (8 * B + 8)) := by rw [leI (by omega) (by omega)]; omega
      have hle2 : ((8 : Int32) ≤ Int32.ofNat 8) := by decide
      unfold L_r_collects_7 K_r_collects_7 L_s_collectBlock_2 K_s_collectBlock_2
      simp only [e8l, e8p, if_pos hle, if_pos hle2]
      exact ⟨trivial, trivial, Or.inr ⟨trivial, trivial, d, rfl, hRi, hc⟩⟩
theorem jC_full {A : gM} (h : jC 99 A) {b : Nat} (hb : b < 12) (h6 : A 6 b = 2) : ∀ j, j < 8 → A 0 (8 * b + j) ≠ -1 := by
  intro j hj w
  have h8 := (jC_shut h hb).mp h6
  have := ((h b hb).1 j hj).mp w
  omega
/-- what a collected block leaves and does: d pages are copied -/
def jK (A A' : gM) (B d : Nat) : Prop := (A' 13 0 = A 13 0 ∧ A' 13 1 = A 13 1 ∧ A' 13 2 = A 13 2 ∧ A' 13 3 = A 13 3 + Int32.ofNat d ∧ A' 13 4 = A 13 4 + 1) ∧ A' 11 4 = A 11 4 + Int32.ofNat d ∧ A' 3 = A 3 ∧ A' 8 = upd (A 8) B (A 8 B + 1) ∧ frN A ≤ frN A' ∧ sS 12 (cN A') + 8 = sS 12 (cN A) + d ∧ d = vL A B
theorem collects_RS {mr m A : gM} {e t B : Nat} (hr : aR mr = A) (hR : jR m A) (hA : jV e t 99 99 A) (hB : B < 12) (h6 : A 6 B = 2) (hfr : 1 ≤ frN A) (ht : t + 8 < 2147483600) :
    o_r_collects mr (Int32.ofNat B) ∧ o_s_collectBlock m (Int32.ofNat B) ∧ ∃ d, (f_r_collects mr (Int32.ofNat B)).1 = Int32.ofNat d ∧ jR (f_s_collectBlock m (Int32.ofNat B)) (aR (f_r_collects mr (Int32.ofNat B)).2) ∧ jV (e + 1) (t + 8) 99 99 (aR (f_r_collects mr (Int32.ofNat B)).2) ∧ jK A (aR (f_r_collects mr (Int32.ofNat B)).2) B d := by
  have hic : jC 99 A := by obtain ⟨_, _, _, c, _⟩ := hA; exact c
  obtain ⟨k1, k2, d, k3, k4, k5⟩ := collect_loop hr hR hA hB (jC_full hic hB h6) h6 hfr ht
  unfold f_r_collects o_r_collects f_s_collectBlock o_s_collectBlock
  simp only [g_let_def, e8l]
  generalize hz : run (L_r_collects_7 (Int32.ofNat B)) 400 ((0 : Int32), Int32.ofNat (8 * B), mr) = Z at *
  generalize hw : run (L_s_collectBlock_2 (Int32.ofNat B)) 400 ((0 : Int32), m) = W at *
  have hd8 := cI_d k5
  obtain ⟨h1, h2, h3, h4, h5, h6', h7, h8, h9, h10, h11⟩ := k5
  have hA1 := jV_up h1 (Nat.le_refl e) (show t + d ≤ t + 8 by omega)
  have hA2 : jV e (t + 8) 99 99 (sIn (aR Z.2.2) 13 3 (aR Z.2.2 13 3 + Int32.ofNat d)) := jV_13 hA1 (by decide) (by decide) (by decide)
  have hR2 : jR W.2 (sIn (aR Z.2.2) 13 3 (aR Z.2.2 13 3 + Int32.ofNat d)) := jR_13 k4 (by decide) (by decide) (by decide)
  have hv2 : ∀ j, j < 8 → vd (sIn (aR Z.2.2) 13 3 (aR Z.2.2 13 3 + Int32.ofNat d)) (8 * B + j) = 0 := fun j hj => by
    rw [show vd (sIn (aR Z.2.2) 13 3 (aR Z.2.2 13 3 + Int32.ofNat d)) = vd (aR Z.2.2) from vd_c rfl rfl]; exact (h3 j hj).1 hj
  obtain ⟨x1, x2, x3, x4, x5, x6⟩ := jV_sEr hA2 hB h4 hv2
  obtain ⟨y1, y2⟩ := erase_R hR2 hA2 hB h4 hv2
  have hz4 : aR (g_set Z.2.2 0 (upd (Z.2.2 0) (361 : Int32).toNatClampNeg ((Z.2.2 0 (361 : Int32).toNatClampNeg) + Z.1))) = sIn (aR Z.2.2) 13 3 (aR Z.2.2 13 3 + Int32.ofNat d) := by
    rw [rs13_3, k3]; rfl
  generalize hz4' : g_set Z.2.2 0 (upd (Z.2.2 0) (361 : Int32).toNatClampNeg ((Z.2.2 0 (361 : Int32).toNatClampNeg) + Z.1)) = Z4 at *
  obtain ⟨e1, e2⟩ := e110 (m := Z4) (n := Z.1) hB
  generalize hz7 : run (L_r_collects_110 (Int32.ofNat B) Z.1) 400 (Int32.ofNat (8 * B), Z4) = Z7 at *
  refine ⟨⟨k1, e1, ro6 hB, ro7 hB, ro8 hB, ro8 hB, trivial⟩, ⟨k2, y2, trivial⟩, d, k3, ?_⟩
  have hfin : aR (g_set (g_set (g_set (g_set Z7.2 0 (upd (Z7.2 0) (((96 : Int32) + Int32.ofNat B)).toNatClampNeg (0 : Int32))) 0 (upd ((g_set Z7.2 0 (upd (Z7.2 0) (((96 : Int32) + Int32.ofNat B)).toNatClampNeg (0 : Int32))) 0) (((108 : Int32) + Int32.ofNat B)).toNatClampNeg (-1 : Int32))) 0 (upd ((g_set (g_set Z7.2 0 (upd (Z7.2 0) (((96 : Int32) + Int32.ofNat B)).toNatClampNeg (0 : Int32))) 0 (upd ((g_set Z7.2 0 (upd (Z7.2 0) (((96 : Int32) + Int32.ofNat B)).toNatClampNeg (0 : Int32))) 0) (((108 : Int32) + Int32.ofNat B)).toNatClampNeg (-1 : Int32))) 0) (((120 : Int32) + Int32.ofNat B)).toNatClampNeg (((g_set (g_set Z7.2 0 (upd (Z7.2 0) (((96 : Int32) + Int32.ofNat B)).toNatClampNeg (0 : Int32))) 0 (upd ((g_set Z7.2 0 (upd (Z7.2 0) (((96 : Int32) + Int32.ofNat B)).toNatClampNeg (0 : Int32))) 0) (((108 : Int32) + Int32.ofNat B)).toNatClampNeg (-1 : Int32))) 0 (((120 : Int32) + Int32.ofNat B)).toNatClampNeg) + (1 : Int32)))) 0 (upd ((g_set (g_set (g_set Z7.2 0 (upd (Z7.2 0) (((96 : Int32) + Int32.ofNat B)).toNatClampNeg (0 : Int32))) 0 (upd ((g_set Z7.2 0 (upd (Z7.2 0) (((96 : Int32) + Int32.ofNat B)).toNatClampNeg (0 : Int32))) 0) (((108 : Int32) + Int32.ofNat B)).toNatClampNeg (-1 : Int32))) 0 (upd ((g_set (g_set Z7.2 0 (upd (Z7.2 0) (((96 : Int32) + Int32.ofNat B)).toNatClampNeg (0 : Int32))) 0 (upd ((g_set Z7.2 0 (upd (Z7.2 0) (((96 : Int32) + Int32.ofNat B)).toNatClampNeg (0 : Int32))) 0) (((108 : Int32) + Int32.ofNat B)).toNatClampNeg (-1 : Int32))) 0) (((120 : Int32) + Int32.ofNat B)).toNatClampNeg (((g_set (g_set Z7.2 0 (upd (Z7.2 0) (((96 : Int32) + Int32.ofNat B)).toNatClampNeg (0 : Int32))) 0 (upd ((g_set Z7.2 0 (upd (Z7.2 0) (((96 : Int32) + Int32.ofNat B)).toNatClampNeg (0 : Int32))) 0) (((108 : Int32) + Int32.ofNat B)).toNatClampNeg (-1 : Int32))) 0 (((120 : Int32) + Int32.ofNat B)).toNatClampNeg) + (1 : Int32)))) 0) (362 : Int32).toNatClampNeg (((g_set (g_set (g_set Z7.2 0 (upd (Z7.2 0) (((96 : Int32) + Int32.ofNat B)).toNatClampNeg (0 : Int32))) 0 (upd ((g_set Z7.2 0 (upd (Z7.2 0) (((96 : Int32) + Int32.ofNat B)).toNatClampNeg (0 : Int32))) 0) (((108 : Int32) + Int32.ofNat B)).toNatClampNeg (-1 : Int32))) 0 (upd ((g_set (g_set Z7.2 0 (upd (Z7.2 0) (((96 : Int32) + Int32.ofNat B)).toNatClampNeg (0 : Int32))) 0 (upd ((g_set Z7.2 0 (upd (Z7.2 0) (((96 : Int32) + Int32.ofNat B)).toNatClampNeg (0 : Int32))) 0) (((108 : Int32) + Int32.ofNat B)).toNatClampNeg (-1 : Int32))) 0) (((120 : Int32) + Int32.ofNat B)).toNatClampNeg (((g_set (g_set Z7.2 0 (upd (Z7.2 0) (((96 : Int32) + Int32.ofNat B)).toNatClampNeg (0 : Int32))) 0 (upd ((g_set Z7.2 0 (upd (Z7.2 0) (((96 : Int32) + Int32.ofNat B)).toNatClampNeg (0 : Int32))) 0) (((108 : Int32) + Int32.ofNat B)).toNatClampNeg (-1 : Int32))) 0 (((120 : Int32) + Int32.ofNat B)).toNatClampNeg) + (1 : Int32)))) 0 (362 : Int32).toNatClampNeg) + (1 : Int32)))) = sIn (sEr (sIn (aR Z.2.2) 13 3 (aR Z.2.2 13 3 + Int32.ofNat d)) B) 13 4 (aR Z.2.2 13 4 + 1) := by
    simp only [rs13_4, rg13_4, rs8 hB, rg8 hB, rs7 hB, rs6 hB, e2, hz4]
    rfl
  rw [hfin]
  refine ⟨jR_13 y1 (by decide) (by decide) (by decide), jV_13 x1 (by decide) (by decide) (by decide), ⟨h8 0 (by decide), h8 1 (by decide), h8 2 (by decide), ?_, ?_⟩, h9, h10, ?_, ?_, ?_, ?_⟩
  · show aR Z.2.2 13 3 + Int32.ofNat d = _; rw [h8 3 (by decide)]
  · show aR Z.2.2 13 4 + 1 = _; rw [h8 4 (by decide)]
  · show upd (aR Z.2.2 8) B (aR Z.2.2 8 B + 1) = _; rw [h11]
  · rw [show frN (sIn (sEr (sIn (aR Z.2.2) 13 3 (aR Z.2.2 13 3 + Int32.ofNat d)) B) 13 4 (aR Z.2.2 13 4 + 1)) = frN (sEr (sIn (aR Z.2.2) 13 3 (aR Z.2.2 13 3 + Int32.ofNat d)) B) from frN_c rfl, x5, show frN (sIn (aR Z.2.2) 13 3 (aR Z.2.2 13 3 + Int32.ofNat d)) = frN (aR Z.2.2) from frN_c rfl]
    obtain ⟨-, -, -, ic1, id1, -⟩ := h1
    have hroom : avN 4 (aR Z.2.2) ≤ 8 * frN (aR Z.2.2) + 7 := by
      unfold avN
      rcases id1 4 (by omega) with q | ⟨b, hb, q, q6, -⟩
      · rw [if_pos q]; omega
      · rw [q, if_neg (nI_ne1 (by omega)), nI_ix (by omega)]
        rcases (ic1 b hb).2 with ⟨-, z, -⟩ | ⟨z | z, -⟩ | ⟨-, z, -⟩
        · rw [q6] at z; exact absurd z (by decide)
        · omega
        · omega
        · rw [q6] at z; exact absurd z (by decide)
    have : 8 * frN A ≤ avN 4 A := by unfold avN; omega
    omega
  · rw [show cN (sIn (sEr (sIn (aR Z.2.2) 13 3 (aR Z.2.2 13 3 + Int32.ofNat d)) B) 13 4 (aR Z.2.2 13 4 + 1)) = cN (sEr (sIn (aR Z.2.2) 13 3 (aR Z.2.2 13 3 + Int32.ofNat d)) B) from cN_c rfl]
    rw [show cN (sIn (aR Z.2.2) 13 3 (aR Z.2.2 13 3 + Int32.ofNat d)) = cN (aR Z.2.2) from cN_c rfl] at x6
    omega
  · exact h6'
