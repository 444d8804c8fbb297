/-! the reference's looks at its row -/
theorem sS_acc {f : Nat → Nat} {n x : Nat} (h : f n = x) : Int32.ofNat (sS n f) + Int32.ofNat x = Int32.ofNat (sS (n + 1) f) := by
  rw [nI_plus2]; show _ = Int32.ofNat (sS n f + f n); rw [h]
theorem of_A {m : gM} {p : Nat} (hp : p < 40) : f_r_of m (Int32.ofNat p) (0 : Int32) = aR m 1 p ∧ o_r_of m (Int32.ofNat p) (0 : Int32) := by
  unfold f_r_of o_r_of; exact ⟨rg1 hp, ro1 hp, trivial⟩
theorem of_A2 {m : gM} {p : Nat} (hp : p < 40) : f_r_of m (Int32.ofNat p) (1 : Int32) = aR m 2 p ∧ o_r_of m (Int32.ofNat p) (1 : Int32) := by
  unfold f_r_of o_r_of; exact ⟨rg2 hp, ro2 hp, trivial⟩
theorem of_A3 {m : gM} {p : Nat} (hp : p < 40) : f_r_of m (Int32.ofNat p) (2 : Int32) = aR m 3 p ∧ o_r_of m (Int32.ofNat p) (2 : Int32) := by
  unfold f_r_of o_r_of; exact ⟨rg3 hp, ro3 hp, trivial⟩
theorem of_A4 {m : gM} {p : Nat} (hp : p < 40) : f_r_of m (Int32.ofNat p) (3 : Int32) = aR m 4 p ∧ o_r_of m (Int32.ofNat p) (3 : Int32) := by
  unfold f_r_of o_r_of; exact ⟨rg4 hp, ro4 hp, trivial⟩
theorem of_A5 {m : gM} {p : Nat} (hp : p < 40) : f_r_of m (Int32.ofNat p) (4 : Int32) = aR m 5 p ∧ o_r_of m (Int32.ofNat p) (4 : Int32) := by
  unfold f_r_of o_r_of; exact ⟨rg5 hp, ro5 hp, trivial⟩
theorem isValid_A {m : gM} {k : Nat} (ha : jA (aR m)) (hk : k < 96) : f_r_isValid m (Int32.ofNat k) = Int32.ofNat (vd (aR m) k) ∧ o_r_isValid m (Int32.ofNat k) := by
  unfold f_r_isValid o_r_isValid
  rw [rg0 (m := m) hk]
  unfold vd
  rcases ha k hk with q | ⟨p, hp, q⟩
  · rw [if_pos q, if_pos q, if_pos q]; exact ⟨rfl, ro0 hk, trivial⟩
  · rw [q, if_neg (nI_ne1 (by omega)), if_neg (nI_ne1 (by omega)), if_neg (nI_ne1 (by omega)), (of_A hp).1, nI_ix (by omega)]
    refine ⟨?_, ro0 hk, ro0 hk, (of_A hp).2, ?_⟩
    · split <;> rfl
    · split <;> trivial
def kd (A : gM) (x k : Nat) : Nat := if (if A 0 k = -1 then 2 else 1 - vd A k) = x then 1 else 0
def kN (A : gM) (x b : Nat) : Nat := sS 8 (fun j => kd A x (8 * b + j))
theorem kN_0 (A : gM) (b : Nat) : kN A 0 b = vL A b := sS_c 8 (fun j hj => by
  unfold kd vd
  by_cases q : A 0 (8 * b + j) = -1
  · rw [if_pos q, if_pos q]; rfl
  · rw [if_neg q, if_neg q]; split <;> rfl)
theorem kN_1 (A : gM) (b : Nat) : kN A 1 b + vL A b = cN A b := by
  unfold kN vL cN
  rw [← sS_add]
  exact sS_c 8 (fun j hj => by
    unfold kd vd bN
    by_cases q : A 0 (8 * b + j) = -1
    · rw [if_pos q, if_pos q, if_pos q]; rfl
    · rw [if_neg q, if_neg q, if_neg q]; split <;> rfl)
theorem kN_2 (A : gM) (b : Nat) : kN A 2 b + cN A b = 8 := by
  unfold kN cN
  rw [← sS_add, sS_c (g := fun _ => 1) 8 (fun j hj => by
    unfold kd vd bN
    by_cases q : A 0 (8 * b + j) = -1
    · rw [if_pos q, if_pos q]; rfl
    · rw [if_neg q, if_neg q, if_neg q]; split <;> rfl)]
  rfl
theorem slots_A {m : gM} {b x : Nat} (ha : jA (aR m)) (hb : b < 12) (hx : x < 3) : f_r_slots m (Int32.ofNat b) (Int32.ofNat x) = Int32.ofNat (kN (aR m) x b) ∧ o_r_slots m (Int32.ofNat b) (Int32.ofNat x) := by
  have hL := run_count (f := L_r_slots_8 m (Int32.ofNat b) (Int32.ofNat x)) (K := K_r_slots_8 m (Int32.ofNat b) (Int32.ofNat x)) (N := 8) (fuel := 400) (z := ((0 : Int32), Int32.ofNat (8 * b))) (fun n z => z = (Int32.ofNat (sS n (fun j => kd (aR m) x (8 * b + j))), Int32.ofNat (8 * b + n))) (fun z => z.1 = Int32.ofNat (kN (aR m) x b)) (by decide) rfl (fun n z hn hz => ?_) (fun z hz => ?_)
  · unfold f_r_slots o_r_slots
    simp only [g_let_def, e8l]
    exact ⟨hL.2, hL.1, trivial⟩
  · subst hz
    have hk : 8 * b + n < 96 := by omega
    obtain ⟨v1, v2⟩ := isValid_A ha hk
    have hlt : ¬ (Int32.ofNat (8 * b + 8) ≤ Int32.ofNat (8 * b + n)) := by rw [leI (by omega) (by omega)]; omega
    unfold L_r_slots_8 K_r_slots_8
    simp only [g_let_def, e8l, e8p, if_neg hlt, rg0 hk, v1]
    have hxx : x = 0 ∨ x = 1 ∨ x = 2 := by omega
    have n20 : ¬ ((2 : Int32) = Int32.ofNat 0) := by decide
    have n21 : ¬ ((2 : Int32) = Int32.ofNat 1) := by decide
    have n22 : ((2 : Int32) = Int32.ofNat 2) := by decide
    have n10 : ¬ ((1 : Int32) = Int32.ofNat 0) := by decide
    have n11 : ((1 : Int32) = Int32.ofNat 1) := by decide
    have n12 : ¬ ((1 : Int32) = Int32.ofNat 2) := by decide
    have n00 : ((0 : Int32) = Int32.ofNat 0) := by decide
    have n01 : ¬ ((0 : Int32) = Int32.ofNat 1) := by decide
    have n02 : ¬ ((0 : Int32) = Int32.ofNat 2) := by decide
    by_cases q : aR m 0 (8 * b + n) = -1
    · simp only [if_pos q]
      rcases hxx with rfl | rfl | rfl
      · simp only [if_neg n20]
        refine ⟨⟨ro0 hk, trivial⟩, trivial, Prod.ext (sS_acc (x := 0) ?_) (e1r _)⟩
        unfold kd; rw [if_pos q]; rfl
      · simp only [if_neg n21]
        refine ⟨⟨ro0 hk, trivial⟩, trivial, Prod.ext (sS_acc (x := 0) ?_) (e1r _)⟩
        unfold kd; rw [if_pos q]; rfl
      · simp only [if_pos n22]
        refine ⟨⟨ro0 hk, trivial⟩, trivial, Prod.ext (sS_acc (x := 1) ?_) (e1r _)⟩
        unfold kd; rw [if_pos q]; rfl
    · simp only [if_neg q]
      have hv : vd (aR m) (8 * b + n) = 0 ∨ vd (aR m) (8 * b + n) = 1 := by
        have := vd_le (aR m) (8 * b + n); have := bN_le (aR m) (8 * b + n); omega
      have e0 : (Int32.ofNat 0 = 0) := rfl
      have e1 : ¬ (Int32.ofNat 1 = 0) := by decide
      rcases hv with hv | hv
      · simp only [hv, if_pos e0]
        rcases hxx with rfl | rfl | rfl
        · simp only [if_neg n10]
          refine ⟨⟨ro0 hk, v2, trivial⟩, trivial, Prod.ext (sS_acc (x := 0) ?_) (e1r _)⟩
          unfold kd; rw [if_neg q, hv]; rfl
        · simp only [if_pos n11]
          refine ⟨⟨ro0 hk, v2, trivial⟩, trivial, Prod.ext (sS_acc (x := 1) ?_) (e1r _)⟩
          unfold kd; rw [if_neg q, hv]; rfl
        · simp only [if_neg n12]
          refine ⟨⟨ro0 hk, v2, trivial⟩, trivial, Prod.ext (sS_acc (x := 0) ?_) (e1r _)⟩
          unfold kd; rw [if_neg q, hv]; rfl
      · simp only [hv, if_neg e1]
        rcases hxx with rfl | rfl | rfl
        · simp only [if_pos n00]
          refine ⟨⟨ro0 hk, v2, trivial⟩, trivial, Prod.ext (sS_acc (x := 1) ?_) (e1r _)⟩
          unfold kd; rw [if_neg q, hv]; rfl
        · simp only [if_neg n01]
          refine ⟨⟨ro0 hk, v2, trivial⟩, trivial, Prod.ext (sS_acc (x := 0) ?_) (e1r _)⟩
          unfold kd; rw [if_neg q, hv]; rfl
        · simp only [if_neg n02]
          refine ⟨⟨ro0 hk, v2, trivial⟩, trivial, Prod.ext (sS_acc (x := 0) ?_) (e1r _)⟩
          unfold kd; rw [if_neg q, hv]; rfl
  · subst hz
    have hle : (Int32.ofNat (8 * b + 8) ≤ Int32.ofNat (8 * b + 8)) := by rw [leI (by omega) (by omega)]; omega
    unfold L_r_slots_8 K_r_slots_8
    simp only [e8l, e8p, if_pos hle]
    exact ⟨trivial, trivial, rfl⟩
theorem inState_A {m : gM} {x : Int32} : f_r_inState m x = Int32.ofNat (sS 12 (sN (aR m) x)) ∧ o_r_inState m x := by
  have hL := run_count (f := L_r_inState_4 m x) (K := K_r_inState_4 m x) (N := 12) (fuel := 400) (z := ((0 : Int32), (0 : Int32))) (fun n z => z = (Int32.ofNat (sS n (sN (aR m) x)), Int32.ofNat n)) (fun z => z.1 = Int32.ofNat (sS 12 (sN (aR m) x))) (by decide) rfl (fun n z hn hz => ?_) (fun z hz => ?_)
  · unfold f_r_inState o_r_inState
    simp only [g_let_def]
    exact ⟨hL.2, hL.1, trivial⟩
  · subst hz
    have hlt : ¬ ((12 : Int32) ≤ Int32.ofNat n) := by intro h; have := (leI (a := 12) (by omega) (by omega)).mp h; omega
    unfold L_r_inState_4 K_r_inState_4
    simp only [g_let_def, if_neg hlt, rg6 hn]
    by_cases q : aR m 6 n = x
    · simp only [if_pos q]
      refine ⟨⟨ro6 hn, trivial⟩, trivial, Prod.ext (sS_acc (x := 1) ?_) (e1r _)⟩
      unfold sN; rw [if_pos q]
    · simp only [if_neg q]
      refine ⟨⟨ro6 hn, trivial⟩, trivial, Prod.ext (sS_acc (x := 0) ?_) (e1r _)⟩
      unfold sN; rw [if_neg q]
  · subst hz
    have hle : (12 : Int32) ≤ Int32.ofNat 12 := by decide
    unfold L_r_inState_4 K_r_inState_4
    simp only [if_pos hle]
    refine ⟨trivial, trivial, ?_⟩
    first | trivial | rfl
def Pf (A : gM) (b : Nat) : Bool := decide (A 6 b = 0)
def ltf (A : gM) (n i : Nat) : Bool := decide (¬ A 8 i ≤ A 8 n)
def fB0 (A : gM) : Int32 := aM (Pf A) (ltf A) 12
theorem freshBlock_A {m : gM} : f_r_freshBlock m = fB0 (aR m) ∧ o_r_freshBlock m := by
  have hL := run_count (f := L_r_freshBlock_4 m) (K := K_r_freshBlock_4 m) (N := 12) (fuel := 400) (z := ((-1 : Int32), (0 : Int32))) (fun n z => z = (aM (Pf (aR m)) (ltf (aR m)) n, Int32.ofNat n)) (fun z => z.1 = fB0 (aR m)) (by decide) rfl (fun n z hn hz => ?_) (fun z hz => ?_)
  · unfold f_r_freshBlock o_r_freshBlock
    simp only [g_let_def]
    exact ⟨hL.2, hL.1, trivial⟩
  · subst hz
    have hlt : ¬ ((12 : Int32) ≤ Int32.ofNat n) := by intro h; have := (leI (a := 12) (by omega) (by omega)).mp h; omega
    unfold L_r_freshBlock_4 K_r_freshBlock_4
    by_cases q : aR m 6 n = 0
    · have hP : Pf (aR m) n = true := by unfold Pf; simpa using q
      rcases aM_spec (Pf (aR m)) (ltf (aR m)) n (by omega) with ⟨h1, -⟩ | ⟨i, hi, h1, -⟩
      · have hM : aM (Pf (aR m)) (ltf (aR m)) (n + 1) = Int32.ofNat n := if_pos ⟨hP, Or.inl h1⟩
        rw [hM]
        simp only [g_let_def, if_neg hlt, rg6 hn, e1r, if_pos q, if_pos h1]
        exact ⟨⟨ro6 hn, trivial⟩, trivial, trivial⟩
      · have n1 := nI_ne1 (n := i) (by omega)
        have hne : ¬ (aM (Pf (aR m)) (ltf (aR m)) n = -1) := by rw [h1]; exact n1
        by_cases w : aR m 8 i ≤ aR m 8 n
        · have hl : ltf (aR m) n i = false := by unfold ltf; simpa using w
          have hM : aM (Pf (aR m)) (ltf (aR m)) (n + 1) = Int32.ofNat i := (if_neg (fun z => by
            rcases z.2 with z | z
            · exact hne z
            · rw [h1, nI_ix (by omega), hl] at z; cases z)).trans h1
          rw [hM]
          simp only [g_let_def, if_neg hlt, rg6 hn, e1r, if_pos q, h1, if_neg n1, rg8 hn, rg8 (show i < 12 by omega), if_pos w]
          exact ⟨⟨ro6 hn, ro8 hn, ro8 (by omega), trivial⟩, trivial, trivial⟩
        · have hl : ltf (aR m) n i = true := by unfold ltf; simpa using w
          have hM : aM (Pf (aR m)) (ltf (aR m)) (n + 1) = Int32.ofNat n := if_pos ⟨hP, Or.inr (by rw [h1, nI_ix (by omega)]; exact hl)⟩
          rw [hM]
          simp only [g_let_def, if_neg hlt, rg6 hn, e1r, if_pos q, h1, if_neg n1, rg8 hn, rg8 (show i < 12 by omega), if_neg w]
          exact ⟨⟨ro6 hn, ro8 hn, ro8 (by omega), trivial⟩, trivial, trivial⟩
    · have hP : Pf (aR m) n = false := by unfold Pf; simpa using q
      have hM : aM (Pf (aR m)) (ltf (aR m)) (n + 1) = aM (Pf (aR m)) (ltf (aR m)) n := if_neg (fun z => by rw [hP] at z; cases z.1)
      rw [hM]
      simp only [g_let_def, if_neg hlt, rg6 hn, e1r, if_neg q]
      exact ⟨⟨ro6 hn, trivial⟩, trivial, trivial⟩
  · subst hz
    have hle : (12 : Int32) ≤ Int32.ofNat 12 := by decide
    unfold L_r_freshBlock_4 K_r_freshBlock_4
    simp only [if_pos hle]
    refine ⟨trivial, trivial, ?_⟩
    first | trivial | rfl
