def Pv (A : gM) (n : Nat) : Bool := decide (A 6 n = 2 ∧ vL A n < 8)
def ltv (A : gM) (n i : Nat) : Bool := decide (wtN A n < wtN A i ∨ (wtN A n = wtN A i ∧ vL A n < vL A i))
def vtA (A : gM) : Int32 := aM (Pv A) (ltv A) 12
theorem jC_shut {A : gM} (h : jC 99 A) {b : Nat} (hb : b < 12) : (A 6 b = 2 ↔ cN A b = 8) := by
  rcases (h b hb).2 with ⟨h0, h1, -⟩ | ⟨h0, h1, -⟩ | ⟨h0, h1, -⟩
  · rw [h1, h0]; exact ⟨fun w => absurd w (by decide), fun w => by omega⟩
  · rw [h1]; exact ⟨fun w => absurd w (by decide), fun w => by omega⟩
  · rw [h1, h0]; exact ⟨fun _ => rfl, fun _ => rfl⟩
theorem vt_spec (A : gM) : (vtA A = -1 ∧ ∀ b, b < 12 → A 6 b = 2 → vL A b = 8) ∨ ∃ b, b < 12 ∧ vtA A = Int32.ofNat b ∧ A 6 b = 2 ∧ vL A b < 8 := by
  rcases aM_spec (Pv A) (ltv A) 12 (by omega) with ⟨h1, h2⟩ | ⟨b, hb, h1, h2⟩
  · refine Or.inl ⟨h1, fun b hb h6 => ?_⟩
    have := h2 b hb
    unfold Pv at this
    have h3 : ¬ (vL A b < 8) := fun w => by simp [h6, w] at this
    have h4 := vL_le A b
    have h5 := cN_le A b
    omega
  · unfold Pv at h2
    have h3 : A 6 b = 2 ∧ vL A b < 8 := by simpa using h2
    exact Or.inr ⟨b, hb, h1, h3.1, h3.2⟩
theorem victim_A {m : gM} {e t xp : Nat} (hA : jV e t 99 xp (aR m)) (he : e < 100000000) (ht : t < 800000000) : f_r_victim m = vtA (aR m) ∧ o_r_victim m := by
  obtain ⟨ia, ib, ih, ic, id, ie, if', ig, ii, is⟩ := hA
  obtain ⟨h1, h2⟩ := victim_r ia ig (by omega) (by omega)
  refine ⟨h1.trans (aM_c 12 (by omega) (fun i hi => ?_) (fun i j hi hj _ _ => ?_)), h2⟩
  · unfold Pvr Pv
    have k1 := kN_1 (aR m) i
    by_cases q : aR m 6 i = 2
    · have q8 := (jC_shut ic hi).mp q
      have hs : f_r_slots m (Int32.ofNat i) 1 = Int32.ofNat (kN (aR m) 1 i) := (slots_A (x := 1) ia hi (by omega)).1
      have hz : (Int32.ofNat (kN (aR m) 1 i) ≤ 0) ↔ kN (aR m) 1 i ≤ 0 := leI (b := 0) (by omega) (by omega)
      rw [hs]
      have hx : (¬ (Int32.ofNat (kN (aR m) 1 i) ≤ 0)) ↔ vL (aR m) i < 8 := by rw [hz]; omega
      simp only [q, true_and, hx]
    · simp only [q, false_and]
  · have wi := weight_A ig (by omega) (by omega) hi
    have wj := weight_A ig (by omega) (by omega) hj
    have hs0 : f_r_slots m (Int32.ofNat i) 0 = Int32.ofNat (vL (aR m) i) := by
      have := (slots_A (x := 0) ia hi (by omega)).1
      rw [kN_0] at this; exact this
    have hs1 : f_r_slots m (Int32.ofNat j) 0 = Int32.ofNat (vL (aR m) j) := by
      have := (slots_A (x := 0) ia hj (by omega)).1
      rw [kN_0] at this; exact this
    have v1 := vL_le (aR m) i
    have v2 := cN_le (aR m) i
    have v3 := vL_le (aR m) j
    have v4 := cN_le (aR m) j
    unfold ltvr ltv
    refine decide_eq_decide.mpr ?_
    rw [wi.1, wj.1, hs0, hs1, subI_lt (by omega) (by omega), subI_eq (by omega) (by omega), subI_le (by omega) (by omega)]
    have : (¬ (vL (aR m) j ≤ vL (aR m) i)) ↔ vL (aR m) i < vL (aR m) j := by omega
    rw [this]
theorem nI_mul9 (a : Nat) : Int32.ofNat a * (9 : Int32) = Int32.ofNat (a * 9) := nI_times a 9
theorem victim_S {m A : gM} {e t xp : Nat} (hR : jR m A) (hA : jV e t 99 xp A) (he : e < 100000000) (ht : t < 800000000) : f_s_victim m = vtA A ∧ o_s_victim m := by
  obtain ⟨ia, ib, ih, ic, id, ie, if', ⟨g1, g2, g3⟩, ii, is⟩ := hA
  obtain ⟨R1, R2, R3, R4, R5, R6, R7, R8, R9⟩ := hR
  obtain ⟨h1, h2⟩ := victim_s (m := m)
  have hP : ∀ i, i < 12 → Pvs m i = Pv A i := by
    intro i hi
    obtain ⟨r7, r8, r9, r10, r11⟩ := R3 i hi
    have v1 := vL_le A i
    have v2 := cN_le A i
    unfold Pvs Pv
    rw [r8, r9]
    have e1 : (Int32.ofNat (cN A i) = 8) ↔ A 6 i = 2 := by rw [jC_shut ic hi]; exact eqI (b := 8) (by omega) (by omega)
    have e2 : (¬ ((8 : Int32) ≤ Int32.ofNat (vL A i))) ↔ vL A i < 8 := by
      have := leI (a := 8) (b := vL A i) (by omega) (by omega)
      rw [show (8 : Int32) = Int32.ofNat 8 from rfl, this]; omega
    simp only [e1, e2]
  refine ⟨h1.trans (aM_c 12 (by omega) hP (fun i j hi hj pi pj => ?_)), h2⟩
  rw [hP i hi] at pi
  rw [hP j hj] at pj
  have ci : A 6 i = 2 := by unfold Pv at pi; exact (show A 6 i = 2 ∧ vL A i < 8 by simpa using pi).1
  have cj : A 6 j = 2 := by unfold Pv at pj; exact (show A 6 j = 2 ∧ vL A j < 8 by simpa using pj).1
  obtain ⟨r7, r8, r9, r10, r11⟩ := R3 i hi
  obtain ⟨t7, t8, t9, t10, t11⟩ := R3 j hj
  obtain ⟨x, hx, qx⟩ := g1 i hi
  obtain ⟨y, hy, qy⟩ := g2 i hi
  obtain ⟨x', hx', qx'⟩ := g1 j hj
  obtain ⟨y', hy', qy'⟩ := g2 j hj
  have v1 := vL_le A i
  have v2 := cN_le A i
  have v3 := vL_le A j
  have v4 := cN_le A j
  unfold ltvs ltv f_s_rankOf wtN
  rw [nI_ix (show i < 2147483648 by omega), nI_ix (show j < 2147483648 by omega), r9, r10, r11, t9, t10, t11, qx, qy, qx', qy', nI_ix (show x < 2147483648 by omega), nI_ix (show y < 2147483648 by omega), nI_ix (show x' < 2147483648 by omega), nI_ix (show y' < 2147483648 by omega)]
  simp only [g_let_def, show (0 : Int32).toNatClampNeg = 0 from by decide, R6]
  have n01 : ¬ ((0 : Int32) = 1) := by decide
  have n02 : ¬ ((0 : Int32) = 2) := by decide
  have n10 : ¬ ((1 : Int32) = 0) := by decide
  have n20 : ¬ ((2 : Int32) = 0) := by decide
  have n21 : ¬ ((2 : Int32) = 1) := by decide
  rcases is.1 with q | q | q
  · simp only [q, if_neg n01, if_neg n02, if_true]
    refine decide_eq_decide.mpr ?_
    rw [leI (by omega) (by omega)]
    simp only [true_and, Nat.lt_irrefl, false_or]
    omega
  · simp only [q, if_true, if_neg n10]
    refine decide_eq_decide.mpr ?_
    rw [leI (by omega) (by omega)]
    constructor
    · intro w; exact Or.inl (by omega)
    · intro w
      rcases w with w | ⟨w, w2⟩
      · omega
      · have : i = j := ii.2 i j hi hj ci cj (by rw [qy, qy', w])
        subst this; omega
  · simp only [q, if_neg n21, if_neg n20, if_true]
    refine decide_eq_decide.mpr ?_
    rw [nI_mul9, nI_mul9, nI_plus2, nI_plus2, leI (by omega) (by omega)]
    omega
