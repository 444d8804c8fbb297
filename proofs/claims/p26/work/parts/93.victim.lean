/-! the victim, on both sides -/
theorem subI_lt {a b : Nat} (ha : a < 1073741824) (hb : b < 1073741824) : (Int32.ofNat a - Int32.ofNat b < 0) ↔ a < b := by
  rw [Int32.lt_iff_toInt_lt, Int32.toInt_sub, Int32.toInt_ofNat_of_lt (by omega), Int32.toInt_ofNat_of_lt (by omega)]
  have h0 : (0 : Int32).toInt = 0 := by decide
  rw [h0]
  unfold Int.bmod
  dsimp only
  split <;> omega
theorem subI_eq {a b : Nat} (ha : a < 1073741824) (hb : b < 1073741824) : (Int32.ofNat a - Int32.ofNat b = 0) ↔ a = b := by
  constructor
  · intro h
    have h1 : Int32.ofNat a = Int32.ofNat b := by
      have h2 := Int32.sub_add_cancel (Int32.ofNat a) (Int32.ofNat b)
      rw [h, Int32.zero_add] at h2
      exact h2.symm
    exact nI_inj (by omega) (by omega) h1
  · intro h; subst h; exact Int32.sub_self _
theorem subI_le {a b : Nat} (ha : a < 1073741824) (hb : b < 1073741824) : (0 ≤ Int32.ofNat a - Int32.ofNat b) ↔ b ≤ a := by
  rw [Int32.le_iff_toInt_le, Int32.toInt_sub, Int32.toInt_ofNat_of_lt (by omega), Int32.toInt_ofNat_of_lt (by omega)]
  have h0 : (0 : Int32).toInt = 0 := by decide
  rw [h0]
  unfold Int.bmod
  dsimp only
  split <;> omega
def wtN (A : gM) (b : Nat) : Nat := if A 13 0 = 0 then 0 else if A 13 0 = 1 then (A 9 b).toNatClampNeg else (A 8 b).toNatClampNeg
theorem weight_A {m : gM} {e t b : Nat} (hg : jG e t (aR m)) (he : e < 2147483648) (ht : t < 2147483648) (hb : b < 12) : f_r_weight m (Int32.ofNat b) = Int32.ofNat (wtN (aR m) b) ∧ o_r_weight m (Int32.ofNat b) ∧ wtN (aR m) b ≤ e + t := by
  obtain ⟨g1, g2, -⟩ := hg
  obtain ⟨x, hx, qx⟩ := g1 b hb
  obtain ⟨y, hy, qy⟩ := g2 b hb
  unfold f_r_weight o_r_weight wtN
  rw [rg13_0 (m := m), rg8 (m := m) hb, rg9 (m := m) hb]
  by_cases h0 : aR m 13 0 = 0
  · rw [if_pos h0, if_pos h0, if_pos h0]; exact ⟨rfl, trivial, by omega⟩
  · rw [if_neg h0, if_neg h0, if_neg h0]
    by_cases h1 : aR m 13 0 = 1
    · rw [if_pos h1, if_pos h1, if_pos h1, qy, nI_ix (by omega)]; exact ⟨rfl, ⟨ro9 hb, trivial⟩, by omega⟩
    · rw [if_neg h1, if_neg h1, if_neg h1, qx, nI_ix (by omega)]; exact ⟨rfl, ⟨ro8 hb, trivial⟩, by omega⟩
noncomputable def Pvr (m : gM) (n : Nat) : Bool := decide (aR m 6 n = 2 ∧ ¬ f_r_slots m (Int32.ofNat n) 1 ≤ 0)
noncomputable def ltvr (m : gM) (n i : Nat) : Bool := decide (f_r_weight m (Int32.ofNat n) - f_r_weight m (Int32.ofNat i) < 0 ∨ (f_r_weight m (Int32.ofNat n) - f_r_weight m (Int32.ofNat i) = 0 ∧ ¬ 0 ≤ f_r_slots m (Int32.ofNat n) 0 - f_r_slots m (Int32.ofNat i) 0))
theorem victim_r {m : gM} {e t : Nat} (ha : jA (aR m)) (hg : jG e t (aR m)) (he : e < 2147483648) (ht : t < 2147483648) : f_r_victim m = aM (Pvr m) (ltvr m) 12 ∧ o_r_victim m := by
  have hL := run_count (f := L_r_victim_4 m) (K := K_r_victim_4 m) (N := 12) (fuel := 400) (z := ((-1 : Int32), (0 : Int32))) (fun n z => z = (aM (Pvr m) (ltvr m) n, Int32.ofNat n)) (fun z => z.1 = aM (Pvr m) (ltvr m) 12) (by decide) rfl (fun n z hn hz => ?_) (fun z hz => ?_)
  · unfold f_r_victim o_r_victim
    simp only [g_let_def]
    exact ⟨hL.2, hL.1, trivial⟩
  · subst hz
    have hlt : ¬ ((12 : Int32) ≤ Int32.ofNat n) := by intro h; have := (leI (a := 12) (by omega) (by omega)).mp h; omega
    have s1 : o_r_slots m (Int32.ofNat n) (1 : Int32) := (slots_A (x := 1) ha hn (by omega)).2
    have s0 : ∀ i, i < 12 → o_r_slots m (Int32.ofNat i) (0 : Int32) := fun i hi => (slots_A (x := 0) ha hi (by omega)).2
    have w0 : ∀ i, i < 12 → o_r_weight m (Int32.ofNat i) := fun i hi => (weight_A hg he ht hi).2.1
    unfold L_r_victim_4 K_r_victim_4
    by_cases q : aR m 6 n = 2
    · by_cases q1 : f_r_slots m (Int32.ofNat n) 1 ≤ 0
      · have hP : Pvr m n = false := by unfold Pvr; simp [q1]
        have hM : aM (Pvr m) (ltvr m) (n + 1) = aM (Pvr m) (ltvr m) n := if_neg (fun z => by rw [hP] at z; cases z.1)
        rw [hM]
        simp only [g_let_def, if_neg hlt, rg6 hn, e1r, if_pos q, if_pos q1]
        exact ⟨⟨ro6 hn, s1, trivial⟩, trivial, trivial⟩
      · have hP : Pvr m n = true := by unfold Pvr; simp [q, q1]
        rcases aM_spec (Pvr m) (ltvr m) n (by omega) with ⟨h1, -⟩ | ⟨i, hi, h1, -⟩
        · have hM : aM (Pvr m) (ltvr m) (n + 1) = Int32.ofNat n := if_pos ⟨hP, Or.inl h1⟩
          rw [hM]
          simp only [g_let_def, if_neg hlt, rg6 hn, e1r, if_pos q, if_neg q1, if_pos h1]
          exact ⟨⟨ro6 hn, s1, trivial⟩, trivial, trivial⟩
        · have n1 := nI_ne1 (n := i) (by omega)
          have hne : ¬ (aM (Pvr m) (ltvr m) n = -1) := by rw [h1]; exact n1
          have hi' : i < 12 := by omega
          by_cases c1 : f_r_weight m (Int32.ofNat n) - f_r_weight m (Int32.ofNat i) < 0
          · have hl : ltvr m n i = true := by unfold ltvr; simp [c1]
            have hM : aM (Pvr m) (ltvr m) (n + 1) = Int32.ofNat n := if_pos ⟨hP, Or.inr (by rw [h1, nI_ix (by omega)]; exact hl)⟩
            rw [hM]
            simp only [g_let_def, if_neg hlt, rg6 hn, e1r, if_pos q, if_neg q1, h1, if_neg n1, if_pos c1]
            exact ⟨⟨ro6 hn, s1, w0 n hn, w0 i hi', s0 n hn, s0 i hi', trivial⟩, trivial, trivial⟩
          · by_cases c2 : f_r_weight m (Int32.ofNat n) - f_r_weight m (Int32.ofNat i) = 0
            · by_cases c3 : 0 ≤ f_r_slots m (Int32.ofNat n) 0 - f_r_slots m (Int32.ofNat i) 0
              · have hl : ltvr m n i = false := by unfold ltvr; simp [c1, c3]
                have hM : aM (Pvr m) (ltvr m) (n + 1) = Int32.ofNat i := (if_neg (fun z => by
                  rcases z.2 with z | z
                  · exact hne z
                  · rw [h1, nI_ix (by omega), hl] at z; cases z)).trans h1
                rw [hM]
                simp only [g_let_def, if_neg hlt, rg6 hn, e1r, if_pos q, if_neg q1, h1, if_neg n1, if_neg c1, if_pos c2, if_pos c3]
                exact ⟨⟨ro6 hn, s1, w0 n hn, w0 i hi', s0 n hn, s0 i hi', trivial⟩, trivial, trivial⟩
              · have hl : ltvr m n i = true := by unfold ltvr; simp [c2, c3]
                have hM : aM (Pvr m) (ltvr m) (n + 1) = Int32.ofNat n := if_pos ⟨hP, Or.inr (by rw [h1, nI_ix (by omega)]; exact hl)⟩
                rw [hM]
                simp only [g_let_def, if_neg hlt, rg6 hn, e1r, if_pos q, if_neg q1, h1, if_neg n1, if_neg c1, if_pos c2, if_neg c3]
                exact ⟨⟨ro6 hn, s1, w0 n hn, w0 i hi', s0 n hn, s0 i hi', trivial⟩, trivial, trivial⟩
            · have hl : ltvr m n i = false := by unfold ltvr; simp [c1, c2]
              have hM : aM (Pvr m) (ltvr m) (n + 1) = Int32.ofNat i := (if_neg (fun z => by
                rcases z.2 with z | z
                · exact hne z
                · rw [h1, nI_ix (by omega), hl] at z; cases z)).trans h1
              rw [hM]
              simp only [g_let_def, if_neg hlt, rg6 hn, e1r, if_pos q, if_neg q1, h1, if_neg n1, if_neg c1, if_neg c2]
              exact ⟨⟨ro6 hn, s1, w0 n hn, w0 i hi', s0 n hn, s0 i hi', trivial⟩, trivial, trivial⟩
    · have hP : Pvr m n = false := by unfold Pvr; simp [q]
      have hM : aM (Pvr m) (ltvr m) (n + 1) = aM (Pvr m) (ltvr m) n := if_neg (fun z => by rw [hP] at z; cases z.1)
      rw [hM]
      simp only [g_let_def, if_neg hlt, rg6 hn, e1r, if_neg q]
      exact ⟨⟨ro6 hn, trivial⟩, trivial, trivial⟩
  · subst hz
    have hle : (12 : Int32) ≤ Int32.ofNat 12 := by decide
    unfold L_r_victim_4 K_r_victim_4
    simp only [if_pos hle]
    refine ⟨trivial, trivial, ?_⟩
    first | trivial | rfl
def Pvs (m : gM) (n : Nat) : Bool := decide (m 8 n = 8 ∧ ¬ (8 : Int32) ≤ m 9 n)
noncomputable def ltvs (m : gM) (n i : Nat) : Bool := decide (¬ f_s_rankOf m (Int32.ofNat i) ≤ f_s_rankOf m (Int32.ofNat n))
theorem rank_o {m : gM} {b : Nat} (hb : b < 12) : o_s_rankOf m (Int32.ofNat b) := by
  unfold o_s_rankOf
  rw [g_let_def]
  have h := vp_in_nI hb (show 12 < 2 ^ 31 by omega)
  split
  · exact ⟨h, trivial⟩
  · split
    · exact ⟨h, h, trivial⟩
    · exact ⟨h, trivial⟩
theorem victim_s {m : gM} : f_s_victim m = aM (Pvs m) (ltvs m) 12 ∧ o_s_victim m := by
  have hL := run_count (f := L_s_victim_6 m) (K := K_s_victim_6 m) (N := 12) (fuel := 400) (z := ((-1 : Int32), (0 : Int32), (0 : Int32))) (fun n z => z.1 = aM (Pvs m) (ltvs m) n ∧ z.2.2 = Int32.ofNat n ∧ ∀ i, i < 12 → z.1 = Int32.ofNat i → z.2.1 = f_s_rankOf m (Int32.ofNat i)) (fun z => z.1 = aM (Pvs m) (ltvs m) 12) (by decide) ⟨rfl, rfl, fun i hi w => absurd w.symm (nI_ne1 (by omega))⟩ (fun n z hn hz => ?_) (fun z hz => ?_)
  · unfold f_s_victim o_s_victim
    simp only [g_let_def]
    exact ⟨hL.2, hL.1, trivial⟩
  · obtain ⟨z1, z2, z3⟩ := z
    obtain ⟨hz1, hz2, hz3⟩ := hz
    dsimp only at hz1 hz2 hz3
    subst hz1
    subst hz2
    have hlt : ¬ ((12 : Int32) ≤ Int32.ofNat n) := by intro h; have := (leI (a := 12) (by omega) (by omega)).mp h; omega
    have vi := vp_in_nI hn (show 12 < 2 ^ 31 by omega)
    unfold L_s_victim_6 K_s_victim_6
    by_cases q : m 8 n = 8
    · by_cases q1 : (8 : Int32) ≤ m 9 n
      · have hP : Pvs m n = false := by unfold Pvs; simp [q1]
        have hM : aM (Pvs m) (ltvs m) (n + 1) = aM (Pvs m) (ltvs m) n := if_neg (fun z => by rw [hP] at z; cases z.1)
        rw [hM]
        simp only [g_let_def, if_neg hlt, nI_ix (show n < 2147483648 by omega), e1r, if_pos q, if_pos q1]
        exact ⟨⟨vi, vi, trivial⟩, trivial, trivial, trivial, hz3⟩
      · have hP : Pvs m n = true := by unfold Pvs; simp [q, q1]
        rcases aM_spec (Pvs m) (ltvs m) n (by omega) with ⟨h1, -⟩ | ⟨i, hi, h1, -⟩
        · have hM : aM (Pvs m) (ltvs m) (n + 1) = Int32.ofNat n := if_pos ⟨hP, Or.inl h1⟩
          rw [hM]
          simp only [g_let_def, if_neg hlt, nI_ix (show n < 2147483648 by omega), e1r, if_pos q, if_neg q1, if_pos h1]
          exact ⟨⟨vi, vi, rank_o hn, trivial⟩, trivial, trivial, trivial, fun j hj w => by have := nI_inj (by omega) (by omega) w; rw [this]⟩
        · have n1 := nI_ne1 (n := i) (by omega)
          have hne : ¬ (aM (Pvs m) (ltvs m) n = -1) := by rw [h1]; exact n1
          have hr := hz3 i (by omega) h1
          by_cases c1 : f_s_rankOf m (Int32.ofNat i) ≤ f_s_rankOf m (Int32.ofNat n)
          · have hl : ltvs m n i = false := by unfold ltvs; simp [c1]
            have hM : aM (Pvs m) (ltvs m) (n + 1) = aM (Pvs m) (ltvs m) n := if_neg (fun z => by
              rcases z.2 with z | z
              · exact hne z
              · rw [h1, nI_ix (by omega), hl] at z; cases z)
            rw [hM]
            simp only [g_let_def, if_neg hlt, nI_ix (show n < 2147483648 by omega), e1r, if_pos q, if_neg q1, if_neg hne, hr, if_pos c1]
            exact ⟨⟨vi, vi, rank_o hn, trivial⟩, trivial, trivial, trivial, fun j hj w => by rw [← hr]; exact hz3 j hj w⟩
          · have hl : ltvs m n i = true := by unfold ltvs; simp [c1]
            have hM : aM (Pvs m) (ltvs m) (n + 1) = Int32.ofNat n := if_pos ⟨hP, Or.inr (by rw [h1, nI_ix (by omega)]; exact hl)⟩
            rw [hM]
            simp only [g_let_def, if_neg hlt, nI_ix (show n < 2147483648 by omega), e1r, if_pos q, if_neg q1, if_neg hne, hr, if_neg c1]
            exact ⟨⟨vi, vi, rank_o hn, trivial⟩, trivial, trivial, trivial, fun j hj w => by have := nI_inj (by omega) (by omega) w; rw [this]⟩
    · have hP : Pvs m n = false := by unfold Pvs; simp [q]
      have hM : aM (Pvs m) (ltvs m) (n + 1) = aM (Pvs m) (ltvs m) n := if_neg (fun z => by rw [hP] at z; cases z.1)
      rw [hM]
      simp only [g_let_def, if_neg hlt, nI_ix (show n < 2147483648 by omega), e1r, if_neg q]
      exact ⟨⟨vi, trivial⟩, trivial, trivial, trivial, hz3⟩
  · obtain ⟨z1, z2, z3⟩ := z
    obtain ⟨hz1, hz2, hz3⟩ := hz
    dsimp only at hz1 hz2 hz3
    subst hz1
    subst hz2
    have hle : (12 : Int32) ≤ Int32.ofNat 12 := by decide
    unfold L_s_victim_6 K_s_victim_6
    simp only [if_pos hle]
    refine ⟨trivial, trivial, ?_⟩
    first | trivial | rfl
