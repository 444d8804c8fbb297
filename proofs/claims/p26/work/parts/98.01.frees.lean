/-! victims are collected, on both sides -/
def jM (A A' : gM) (x c : Nat) : Prop := (A' 13 0 = A 13 0 ∧ A' 13 1 = A 13 1 ∧ A' 13 2 = A 13 2 ∧ A' 13 3 = A 13 3 + Int32.ofNat x ∧ A' 13 4 = A 13 4 + Int32.ofNat c) ∧ A' 11 4 = A 11 4 + Int32.ofNat x ∧ A' 3 = A 3 ∧ sI 12 (A' 8) = sI 12 (A 8) + Int32.ofNat c ∧ 1 ≤ frN A' ∧ x ≤ 8 * c
theorem jM_step {A A1 A2 : gM} {x c B d : Nat} (h : jM A A1 x c) (hB : B < 12) (hk : jK A1 A2 B d) : jM A A2 (x + d) (c + 1) := by
  obtain ⟨⟨a0, a1, a2, a3, a4⟩, a5, a6, a7, a8, a9⟩ := h
  obtain ⟨⟨b0, b1, b2, b3, b4⟩, b5, b6, b7, b8, b9, b10⟩ := hk
  refine ⟨⟨by rw [b0, a0], by rw [b1, a1], by rw [b2, a2], ?_, ?_⟩, ?_, by rw [b6, a6], ?_, by omega, ?_⟩
  · rw [b3, a3, ← nI_plus2, Int32.add_assoc]
  · rw [b4, a4, ← nI_plus2, Int32.add_assoc]; rfl
  · rw [b5, a5, ← nI_plus2, Int32.add_assoc]
  · rw [b7, sI_upd hB, a7, ← nI_plus2, Int32.add_assoc]; rfl
  · have := vL_le A1 B; have := cN_le A1 B; omega
theorem frees_RS {mr m A : gM} {e t many : Nat} (hr : aR mr = A) (hR : jR m A) (hA : jV e t 99 99 A) (hm : many ≤ 12) (hfr : 1 ≤ frN A) (he : e + 97 < 100000000) (ht : t + 776 < 800000000) :
    o_r_frees mr (Int32.ofNat many) ∧ o_s_collectVictims m (Int32.ofNat many) ∧ ∃ c x, c ≤ 96 ∧ (f_s_collectVictims m (Int32.ofNat many)).1 = Int32.ofNat c ∧ (f_r_frees mr (Int32.ofNat many)).1 = Int32.ofNat x ∧ jR (f_s_collectVictims m (Int32.ofNat many)).2 (aR (f_r_frees mr (Int32.ofNat many)).2) ∧ jV (e + 96) (t + 768) 99 99 (aR (f_r_frees mr (Int32.ofNat many)).2) ∧ jM A (aR (f_r_frees mr (Int32.ofNat many)).2) x c ∧ (many ≤ frN (aR (f_r_frees mr (Int32.ofNat many)).2) ∨ 2 ≤ frN (aR (f_r_frees mr (Int32.ofNat many)).2)) := by
  have hn0 : sS 12 (cN A) ≤ 96 := by
    have := sS_le (f := cN A) (c := 8) 12 (fun b _ => cN_le A b); omega
  obtain ⟨v1, v2⟩ := victim_A (m := mr) (e := e) (t := t) (xp := 99) (by rw [hr]; exact hA) (by omega) (by omega)
  have hL := run2 (f := L_r_frees_7 (Int32.ofNat many)) (g := L_s_collectVictims_2 (Int32.ofNat many)) (K := K_r_frees_7 (Int32.ofNat many)) (K' := K_s_collectVictims_2 (Int32.ofNat many)) (n := sS 12 (cN A)) (fuel := 400) (fuel' := 400) (z := ((0 : Int32), f_r_victim mr, mr)) (w := ((0 : Int32), m, 0))
    (fun n (z : Int32 × Int32 × gM) (w : Int32 × gM × Nat) => ∃ c x, n = sS 12 (cN (aR z.2.2)) ∧ c + n ≤ 96 ∧ z.1 = Int32.ofNat x ∧ z.2.1 = vtA (aR z.2.2) ∧ w.1 = Int32.ofNat c ∧ jR w.2.1 (aR z.2.2) ∧ jV (e + c) (t + 8 * c) 99 99 (aR z.2.2) ∧ jM A (aR z.2.2) x c)
    (fun (z : Int32 × Int32 × gM) (w : Int32 × gM × Nat) => ∃ c x, c ≤ 96 ∧ z.1 = Int32.ofNat x ∧ w.1 = Int32.ofNat c ∧ jR w.2.1 (aR z.2.2) ∧ jV (e + 96) (t + 768) 99 99 (aR z.2.2) ∧ jM A (aR z.2.2) x c ∧ (many ≤ frN (aR z.2.2) ∨ 2 ≤ frN (aR z.2.2)))
    (by omega) (by omega) ?_ (fun n z w hI => ?_)
  · obtain ⟨k1, k2, c, x, h1, h2, h3, h4, h5, h6, h7⟩ := hL
    unfold f_r_frees o_r_frees f_s_collectVictims o_s_collectVictims
    simp only [g_let_def, ite_self]
    refine ⟨⟨v2, k1, trivial⟩, ⟨k2, ?_⟩, c, x, h1, h3, h2, h4, h5, h6, h7⟩
    first | trivial | (split <;> trivial)
  · refine ⟨0, 0, by rw [hr], by omega, rfl, by rw [v1], rfl, by rw [hr]; exact hR, by rw [hr]; exact hA, ?_⟩
    rw [hr]
    exact ⟨⟨rfl, rfl, rfl, (Int32.add_zero _).symm, (Int32.add_zero _).symm⟩, (Int32.add_zero _).symm, rfl, (Int32.add_zero _).symm, hfr, by omega⟩
  · obtain ⟨z1, z2, zm⟩ := z
    obtain ⟨w1, wm, wc⟩ := w
    obtain ⟨c, x, hn, hc, hz1, hz2, hw1, hRi, hVi, hMi⟩ := hI
    dsimp only at hn hz1 hz2 hw1 hRi hVi hMi
    subst hz1
    subst hw1
    obtain ⟨i1, i2⟩ := inState_A (m := zm) (x := 0)
    have i1' : f_r_inState zm 0 = Int32.ofNat (frN (aR zm)) := i1
    have hfl := frN_le (aR zm)
    have hR8 : wm 0 15 = Int32.ofNat (frN (aR zm)) := hRi.2.2.2.2.2.2.2.1
    have hV96 := jV_up hVi (show e + c ≤ e + 96 by omega) (show t + 8 * c ≤ t + 768 by omega)
    obtain ⟨s1, s2⟩ := victim_S hRi hVi (by omega) (by omega)
    by_cases hq : many ≤ frN (aR zm)
    · have hle : Int32.ofNat many ≤ Int32.ofNat (frN (aR zm)) := (leI (by omega) (by omega)).mpr hq
      unfold L_r_frees_7 K_r_frees_7 L_s_collectVictims_2 K_s_collectVictims_2
      simp only [i1', hR8, if_pos hle]
      exact ⟨⟨i2, trivial⟩, trivial, Or.inr ⟨trivial, trivial, c, x, by omega, rfl, rfl, hRi, hV96, hMi, Or.inl hq⟩⟩
    · have hle : ¬ (Int32.ofNat many ≤ Int32.ofNat (frN (aR zm))) := fun h => hq ((leI (by omega) (by omega)).mp h)
      have hmil : ¬ ((1000000 : Int32) ≤ Int32.ofNat c) := by intro h; have := (leI (a := 1000000) (by omega) (by omega)).mp h; omega
      rcases vt_spec (aR zm) with ⟨q1, q2⟩ | ⟨B, hB, q1, q2, q3⟩
      · rw [q1] at hz2 s1
        subst hz2
        unfold L_r_frees_7 K_r_frees_7 L_s_collectVictims_2 K_s_collectVictims_2
        simp only [g_let_def, i1', hR8, if_neg hle, if_neg hmil, s1, if_true]
        exact ⟨⟨i2, trivial⟩, ⟨s2, trivial⟩, Or.inr ⟨trivial, trivial, c, x, by omega, rfl, rfl, hRi, hV96, hMi, Or.inr (two_free hVi q2)⟩⟩
      · rw [q1] at hz2 s1
        subst hz2
        have n1 := nI_ne1 (n := B) (by omega)
        obtain ⟨r1, r2, d, r3, r4, r5, r6⟩ := collects_RS (mr := zm) rfl hRi hVi hB q2 hMi.2.2.2.2.1 (by omega)
        have hcN : sS 12 (cN (aR (f_r_collects zm (Int32.ofNat B)).2)) < sS 12 (cN (aR zm)) := by
          obtain ⟨-, -, -, -, -, z1, z2⟩ := r6; omega
        have r5' : jV (e + (c + 1)) (t + 8 * (c + 1)) 99 99 (aR (f_r_collects zm (Int32.ofNat B)).2) := r5
        obtain ⟨u1, u2⟩ := victim_A (m := (f_r_collects zm (Int32.ofNat B)).2) r5' (by omega) (by omega)
        unfold L_r_frees_7 K_r_frees_7 L_s_collectVictims_2 K_s_collectVictims_2
        simp only [g_let_def, i1', hR8, if_neg hle, if_neg hmil, s1, if_neg n1]
        refine ⟨⟨i2, r1, u2, trivial⟩, ⟨s2, r2, trivial⟩, Or.inl ⟨trivial, trivial, _, by rw [hn]; exact hcN, c + 1, x + d, rfl, by omega, ?_, u1, e1r c, r4, r5', jM_step hMi hB r6⟩⟩
        rw [r3, nI_plus2]
