/-! the row of the reference by its fields: 0 slots, 1..5 pages, 6..9 blocks, 10 11 streams, 12 hints, 13 the rest -/
def fB (f : Nat) : Nat := ([0, 144, 145, 146, 147, 148, 96, 108, 120, 132, 344, 345, 354, 358] : List Nat).getD f 0
def fS (f : Nat) : Nat := ([1, 5, 5, 5, 5, 5, 1, 1, 1, 1, 2, 2, 1, 1] : List Nat).getD f 0
def fL (f : Nat) : Nat := ([96, 40, 40, 40, 40, 40, 12, 12, 12, 12, 5, 5, 4, 6] : List Nat).getD f 0
def vA (r : Nat → Int32) : gM := fun f i => if i < fL f then r (fB f + fS f * i) else 0
def iF (k : Nat) : Nat := if k < 96 then 0 else if k < 108 then 6 else if k < 120 then 7 else if k < 132 then 8 else if k < 144 then 9 else if k < 344 then (k - 144) % 5 + 1 else if k < 354 then 10 + (k - 344) % 2 else if k < 358 then 12 else 13
def iI (k : Nat) : Nat := if k < 96 then k else if k < 108 then k - 96 else if k < 120 then k - 108 else if k < 132 then k - 120 else if k < 144 then k - 132 else if k < 344 then (k - 144) / 5 else if k < 354 then (k - 344) / 2 else if k < 358 then k - 354 else k - 358
theorem inv_ok : ∀ f, f < 14 → ∀ i, i < fL f → iF (fB f + fS f * i) = f ∧ iI (fB f + fS f * i) = i ∧ fB f + fS f * i < 364 := by decide +kernel
theorem inv_k : ∀ k, k < 364 → iF k < 14 ∧ iI k < fL (iF k) ∧ fB (iF k) + fS (iF k) * iI k = k := by decide +kernel
theorem fL_lt {f i : Nat} (h : i < fL f) : f < 14 := by
  by_cases hf : f < 14
  · exact hf
  · unfold fL at h
    rw [List.getD_eq_getElem?_getD, List.getElem?_eq_none (by simp; omega)] at h
    exact absurd h (Nat.not_lt_zero _)
theorem vA_upd (r : Nat → Int32) {f i : Nat} (x : Int32) (hi : i < fL f) : vA (upd r (fB f + fS f * i) x) = g_set (vA r) f (upd (vA r f) i x) := by
  have hf := fL_lt hi
  obtain ⟨a1, a2, -⟩ := inv_ok f hf i hi
  funext g j
  rw [g_set_at]
  by_cases hj : j < fL g
  · have hg := fL_lt hj
    obtain ⟨b1, b2, -⟩ := inv_ok g hg j hj
    unfold vA
    rw [if_pos hj, upd_at]
    by_cases e : fB g + fS g * j = fB f + fS f * i
    · have e1 : g = f := by rw [← a1, ← b1, e]
      have e2 : j = i := by rw [← a2, ← b2, e]
      subst e1; subst e2
      rw [if_pos rfl, if_pos rfl, upd_at, if_pos rfl]
    · rw [if_neg e]
      by_cases e1 : g = f
      · subst e1
        rw [if_pos rfl, upd_at, if_neg (fun e2 => e (by rw [e2])), if_pos hj]
      · rw [if_neg e1, if_pos hj]
  · have e9 : ∀ q : Nat → Int32, vA q g j = 0 := fun q => if_neg hj
    by_cases e1 : g = f
    · subst e1
      rw [if_pos rfl, upd_at, if_neg (fun e2 : j = i => hj (by rw [e2]; exact hi)), e9, e9]
    · rw [if_neg e1, e9, e9]
theorem vA_row {r r' : Nat → Int32} (h : vA r = vA r') : ∀ k, k < 364 → r k = r' k := by
  intro k hk
  obtain ⟨-, h2, h3⟩ := inv_k k hk
  have : vA r (iF k) (iI k) = vA r' (iF k) (iI k) := by rw [h]
  unfold vA at this
  rw [if_pos h2, if_pos h2, h3] at this
  exact this
theorem vA_c {r r' : Nat → Int32} (h : ∀ k, k < 364 → r k = r' k) : vA r = vA r' := by
  funext f i
  unfold vA
  by_cases hi : i < fL f
  · rw [if_pos hi, if_pos hi, h _ (inv_ok f (fL_lt hi) i hi).2.2]
  · rw [if_neg hi, if_neg hi]
def aR (m : gM) : gM := vA (m 0)
theorem aR_def (m : gM) : aR m = vA (m 0) := rfl
theorem ri1 {p : Nat} (h9 : p < 40) : (((144 : Int32) + ((5 : Int32) * Int32.ofNat p)) + (0 : Int32)) = Int32.ofNat (fB 1 + fS 1 * p) := by
  have e1 : fB 1 = 144 := rfl
  have e2 : fS 1 = 5 := rfl
  rw [e1, e2, show 144 + 5 * p = 144 + 5 * p + 0 from by omega]
  simp only [Int32.ofNat_add, Int32.ofNat_mul]; rfl
theorem rg1 {m : gM} {p : Nat} (h9 : p < 40) : m 0 ((((144 : Int32) + ((5 : Int32) * Int32.ofNat p)) + (0 : Int32))).toNatClampNeg = aR m 1 p := by
  have hi : p < fL 1 := h9
  have h8 := (inv_ok 1 (by decide) p hi).2.2
  rw [ri1 h9, nI_ix (by omega), aR_def]; unfold vA; rw [if_pos hi]
theorem rs1 {m : gM} {p : Nat} {x : Int32} (h9 : p < 40) : aR (g_set m 0 (upd (m 0) ((((144 : Int32) + ((5 : Int32) * Int32.ofNat p)) + (0 : Int32))).toNatClampNeg x)) = g_set (aR m) 1 (upd (aR m 1) p x) := by
  have hi : p < fL 1 := h9
  have h8 := (inv_ok 1 (by decide) p hi).2.2
  rw [ri1 h9, nI_ix (by omega), aR_def, g_set_s, vA_upd _ _ hi]; rfl
theorem ro1 {p : Nat} (h9 : p < 40) : vp_in (((144 : Int32) + ((5 : Int32) * Int32.ofNat p)) + (0 : Int32)) 364 := by
  have hi : p < fL 1 := h9
  have h8 := (inv_ok 1 (by decide) p hi).2.2
  rw [ri1 h9]; exact vp_in_nI h8 (by omega)
theorem ri2 {p : Nat} (h9 : p < 40) : (((144 : Int32) + ((5 : Int32) * Int32.ofNat p)) + (1 : Int32)) = Int32.ofNat (fB 2 + fS 2 * p) := by
  have e1 : fB 2 = 145 := rfl
  have e2 : fS 2 = 5 := rfl
  rw [e1, e2, show 145 + 5 * p = 144 + 5 * p + 1 from by omega]
  simp only [Int32.ofNat_add, Int32.ofNat_mul]; rfl
theorem rg2 {m : gM} {p : Nat} (h9 : p < 40) : m 0 ((((144 : Int32) + ((5 : Int32) * Int32.ofNat p)) + (1 : Int32))).toNatClampNeg = aR m 2 p := by
  have hi : p < fL 2 := h9
  have h8 := (inv_ok 2 (by decide) p hi).2.2
  rw [ri2 h9, nI_ix (by omega), aR_def]; unfold vA; rw [if_pos hi]
theorem rs2 {m : gM} {p : Nat} {x : Int32} (h9 : p < 40) : aR (g_set m 0 (upd (m 0) ((((144 : Int32) + ((5 : Int32) * Int32.ofNat p)) + (1 : Int32))).toNatClampNeg x)) = g_set (aR m) 2 (upd (aR m 2) p x) := by
  have hi : p < fL 2 := h9
  have h8 := (inv_ok 2 (by decide) p hi).2.2
  rw [ri2 h9, nI_ix (by omega), aR_def, g_set_s, vA_upd _ _ hi]; rfl
theorem ro2 {p : Nat} (h9 : p < 40) : vp_in (((144 : Int32) + ((5 : Int32) * Int32.ofNat p)) + (1 : Int32)) 364 := by
  have hi : p < fL 2 := h9
  have h8 := (inv_ok 2 (by decide) p hi).2.2
  rw [ri2 h9]; exact vp_in_nI h8 (by omega)
theorem ri3 {p : Nat} (h9 : p < 40) : (((144 : Int32) + ((5 : Int32) * Int32.ofNat p)) + (2 : Int32)) = Int32.ofNat (fB 3 + fS 3 * p) := by
  have e1 : fB 3 = 146 := rfl
  have e2 : fS 3 = 5 := rfl
  rw [e1, e2, show 146 + 5 * p = 144 + 5 * p + 2 from by omega]
  simp only [Int32.ofNat_add, Int32.ofNat_mul]; rfl
theorem rg3 {m : gM} {p : Nat} (h9 : p < 40) : m 0 ((((144 : Int32) + ((5 : Int32) * Int32.ofNat p)) + (2 : Int32))).toNatClampNeg = aR m 3 p := by
  have hi : p < fL 3 := h9
  have h8 := (inv_ok 3 (by decide) p hi).2.2
  rw [ri3 h9, nI_ix (by omega), aR_def]; unfold vA; rw [if_pos hi]
theorem rs3 {m : gM} {p : Nat} {x : Int32} (h9 : p < 40) : aR (g_set m 0 (upd (m 0) ((((144 : Int32) + ((5 : Int32) * Int32.ofNat p)) + (2 : Int32))).toNatClampNeg x)) = g_set (aR m) 3 (upd (aR m 3) p x) := by
  have hi : p < fL 3 := h9
  have h8 := (inv_ok 3 (by decide) p hi).2.2
  rw [ri3 h9, nI_ix (by omega), aR_def, g_set_s, vA_upd _ _ hi]; rfl
theorem ro3 {p : Nat} (h9 : p < 40) : vp_in (((144 : Int32) + ((5 : Int32) * Int32.ofNat p)) + (2 : Int32)) 364 := by
  have hi : p < fL 3 := h9
  have h8 := (inv_ok 3 (by decide) p hi).2.2
  rw [ri3 h9]; exact vp_in_nI h8 (by omega)
theorem ri4 {p : Nat} (h9 : p < 40) : (((144 : Int32) + ((5 : Int32) * Int32.ofNat p)) + (3 : Int32)) = Int32.ofNat (fB 4 + fS 4 * p) := by
  have e1 : fB 4 = 147 := rfl
  have e2 : fS 4 = 5 := rfl
  rw [e1, e2, show 147 + 5 * p = 144 + 5 * p + 3 from by omega]
  simp only [Int32.ofNat_add, Int32.ofNat_mul]; rfl
theorem rg4 {m : gM} {p : Nat} (h9 : p < 40) : m 0 ((((144 : Int32) + ((5 : Int32) * Int32.ofNat p)) + (3 : Int32))).toNatClampNeg = aR m 4 p := by
  have hi : p < fL 4 := h9
  have h8 := (inv_ok 4 (by decide) p hi).2.2
  rw [ri4 h9, nI_ix (by omega), aR_def]; unfold vA; rw [if_pos hi]
theorem rs4 {m : gM} {p : Nat} {x : Int32} (h9 : p < 40) : aR (g_set m 0 (upd (m 0) ((((144 : Int32) + ((5 : Int32) * Int32.ofNat p)) + (3 : Int32))).toNatClampNeg x)) = g_set (aR m) 4 (upd (aR m 4) p x) := by
  have hi : p < fL 4 := h9
  have h8 := (inv_ok 4 (by decide) p hi).2.2
  rw [ri4 h9, nI_ix (by omega), aR_def, g_set_s, vA_upd _ _ hi]; rfl
theorem ro4 {p : Nat} (h9 : p < 40) : vp_in (((144 : Int32) + ((5 : Int32) * Int32.ofNat p)) + (3 : Int32)) 364 := by
  have hi : p < fL 4 := h9
  have h8 := (inv_ok 4 (by decide) p hi).2.2
  rw [ri4 h9]; exact vp_in_nI h8 (by omega)
theorem ri5 {p : Nat} (h9 : p < 40) : (((144 : Int32) + ((5 : Int32) * Int32.ofNat p)) + (4 : Int32)) = Int32.ofNat (fB 5 + fS 5 * p) := by
  have e1 : fB 5 = 148 := rfl
  have e2 : fS 5 = 5 := rfl
  rw [e1, e2, show 148 + 5 * p = 144 + 5 * p + 4 from by omega]
  simp only [Int32.ofNat_add, Int32.ofNat_mul]; rfl
theorem rg5 {m : gM} {p : Nat} (h9 : p < 40) : m 0 ((((144 : Int32) + ((5 : Int32) * Int32.ofNat p)) + (4 : Int32))).toNatClampNeg = aR m 5 p := by
  have hi : p < fL 5 := h9
  have h8 := (inv_ok 5 (by decide) p hi).2.2
  rw [ri5 h9, nI_ix (by omega), aR_def]; unfold vA; rw [if_pos hi]
theorem rs5 {m : gM} {p : Nat} {x : Int32} (h9 : p < 40) : aR (g_set m 0 (upd (m 0) ((((144 : Int32) + ((5 : Int32) * Int32.ofNat p)) + (4 : Int32))).toNatClampNeg x)) = g_set (aR m) 5 (upd (aR m 5) p x) := by
  have hi : p < fL 5 := h9
  have h8 := (inv_ok 5 (by decide) p hi).2.2
  rw [ri5 h9, nI_ix (by omega), aR_def, g_set_s, vA_upd _ _ hi]; rfl
theorem ro5 {p : Nat} (h9 : p < 40) : vp_in (((144 : Int32) + ((5 : Int32) * Int32.ofNat p)) + (4 : Int32)) 364 := by
  have hi : p < fL 5 := h9
  have h8 := (inv_ok 5 (by decide) p hi).2.2
  rw [ri5 h9]; exact vp_in_nI h8 (by omega)
theorem ri6 {b : Nat} (h9 : b < 12) : ((96 : Int32) + Int32.ofNat b) = Int32.ofNat (fB 6 + fS 6 * b) := by
  have e1 : fB 6 = 96 := rfl
  have e2 : fS 6 = 1 := rfl
  rw [e1, e2, show 96 + 1 * b = 96 + b from by omega]
  simp only [Int32.ofNat_add, Int32.ofNat_mul]; rfl
theorem rg6 {m : gM} {b : Nat} (h9 : b < 12) : m 0 (((96 : Int32) + Int32.ofNat b)).toNatClampNeg = aR m 6 b := by
  have hi : b < fL 6 := h9
  have h8 := (inv_ok 6 (by decide) b hi).2.2
  rw [ri6 h9, nI_ix (by omega), aR_def]; unfold vA; rw [if_pos hi]
theorem rs6 {m : gM} {b : Nat} {x : Int32} (h9 : b < 12) : aR (g_set m 0 (upd (m 0) (((96 : Int32) + Int32.ofNat b)).toNatClampNeg x)) = g_set (aR m) 6 (upd (aR m 6) b x) := by
  have hi : b < fL 6 := h9
  have h8 := (inv_ok 6 (by decide) b hi).2.2
  rw [ri6 h9, nI_ix (by omega), aR_def, g_set_s, vA_upd _ _ hi]; rfl
theorem ro6 {b : Nat} (h9 : b < 12) : vp_in ((96 : Int32) + Int32.ofNat b) 364 := by
  have hi : b < fL 6 := h9
  have h8 := (inv_ok 6 (by decide) b hi).2.2
  rw [ri6 h9]; exact vp_in_nI h8 (by omega)
theorem ri7 {b : Nat} (h9 : b < 12) : ((108 : Int32) + Int32.ofNat b) = Int32.ofNat (fB 7 + fS 7 * b) := by
  have e1 : fB 7 = 108 := rfl
  have e2 : fS 7 = 1 := rfl
  rw [e1, e2, show 108 + 1 * b = 108 + b from by omega]
  simp only [Int32.ofNat_add, Int32.ofNat_mul]; rfl
theorem rg7 {m : gM} {b : Nat} (h9 : b < 12) : m 0 (((108 : Int32) + Int32.ofNat b)).toNatClampNeg = aR m 7 b := by
  have hi : b < fL 7 := h9
  have h8 := (inv_ok 7 (by decide) b hi).2.2
  rw [ri7 h9, nI_ix (by omega), aR_def]; unfold vA; rw [if_pos hi]
theorem rs7 {m : gM} {b : Nat} {x : Int32} (h9 : b < 12) : aR (g_set m 0 (upd (m 0) (((108 : Int32) + Int32.ofNat b)).toNatClampNeg x)) = g_set (aR m) 7 (upd (aR m 7) b x) := by
  have hi : b < fL 7 := h9
  have h8 := (inv_ok 7 (by decide) b hi).2.2
  rw [ri7 h9, nI_ix (by omega), aR_def, g_set_s, vA_upd _ _ hi]; rfl
theorem ro7 {b : Nat} (h9 : b < 12) : vp_in ((108 : Int32) + Int32.ofNat b) 364 := by
  have hi : b < fL 7 := h9
  have h8 := (inv_ok 7 (by decide) b hi).2.2
  rw [ri7 h9]; exact vp_in_nI h8 (by omega)
theorem ri8 {b : Nat} (h9 : b < 12) : ((120 : Int32) + Int32.ofNat b) = Int32.ofNat (fB 8 + fS 8 * b) := by
  have e1 : fB 8 = 120 := rfl
  have e2 : fS 8 = 1 := rfl
  rw [e1, e2, show 120 + 1 * b = 120 + b from by omega]
  simp only [Int32.ofNat_add, Int32.ofNat_mul]; rfl
theorem rg8 {m : gM} {b : Nat} (h9 : b < 12) : m 0 (((120 : Int32) + Int32.ofNat b)).toNatClampNeg = aR m 8 b := by
  have hi : b < fL 8 := h9
  have h8 := (inv_ok 8 (by decide) b hi).2.2
  rw [ri8 h9, nI_ix (by omega), aR_def]; unfold vA; rw [if_pos hi]
theorem rs8 {m : gM} {b : Nat} {x : Int32} (h9 : b < 12) : aR (g_set m 0 (upd (m 0) (((120 : Int32) + Int32.ofNat b)).toNatClampNeg x)) = g_set (aR m) 8 (upd (aR m 8) b x) := by
  have hi : b < fL 8 := h9
  have h8 := (inv_ok 8 (by decide) b hi).2.2
  rw [ri8 h9, nI_ix (by omega), aR_def, g_set_s, vA_upd _ _ hi]; rfl
theorem ro8 {b : Nat} (h9 : b < 12) : vp_in ((120 : Int32) + Int32.ofNat b) 364 := by
  have hi : b < fL 8 := h9
  have h8 := (inv_ok 8 (by decide) b hi).2.2
  rw [ri8 h9]; exact vp_in_nI h8 (by omega)
theorem ri9 {b : Nat} (h9 : b < 12) : ((132 : Int32) + Int32.ofNat b) = Int32.ofNat (fB 9 + fS 9 * b) := by
  have e1 : fB 9 = 132 := rfl
  have e2 : fS 9 = 1 := rfl
  rw [e1, e2, show 132 + 1 * b = 132 + b from by omega]
  simp only [Int32.ofNat_add, Int32.ofNat_mul]; rfl
theorem rg9 {m : gM} {b : Nat} (h9 : b < 12) : m 0 (((132 : Int32) + Int32.ofNat b)).toNatClampNeg = aR m 9 b := by
  have hi : b < fL 9 := h9
  have h8 := (inv_ok 9 (by decide) b hi).2.2
  rw [ri9 h9, nI_ix (by omega), aR_def]; unfold vA; rw [if_pos hi]
theorem rs9 {m : gM} {b : Nat} {x : Int32} (h9 : b < 12) : aR (g_set m 0 (upd (m 0) (((132 : Int32) + Int32.ofNat b)).toNatClampNeg x)) = g_set (aR m) 9 (upd (aR m 9) b x) := by
  have hi : b < fL 9 := h9
  have h8 := (inv_ok 9 (by decide) b hi).2.2
  rw [ri9 h9, nI_ix (by omega), aR_def, g_set_s, vA_upd _ _ hi]; rfl
theorem ro9 {b : Nat} (h9 : b < 12) : vp_in ((132 : Int32) + Int32.ofNat b) 364 := by
  have hi : b < fL 9 := h9
  have h8 := (inv_ok 9 (by decide) b hi).2.2
  rw [ri9 h9]; exact vp_in_nI h8 (by omega)
theorem ri10 {s : Nat} (h9 : s < 5) : ((344 : Int32) + ((2 : Int32) * Int32.ofNat s)) = Int32.ofNat (fB 10 + fS 10 * s) := by
  have e1 : fB 10 = 344 := rfl
  have e2 : fS 10 = 2 := rfl
  rw [e1, e2, show 344 + 2 * s = 344 + 2 * s from by omega]
  simp only [Int32.ofNat_add, Int32.ofNat_mul]; rfl
theorem rg10 {m : gM} {s : Nat} (h9 : s < 5) : m 0 (((344 : Int32) + ((2 : Int32) * Int32.ofNat s))).toNatClampNeg = aR m 10 s := by
  have hi : s < fL 10 := h9
  have h8 := (inv_ok 10 (by decide) s hi).2.2
  rw [ri10 h9, nI_ix (by omega), aR_def]; unfold vA; rw [if_pos hi]
theorem rs10 {m : gM} {s : Nat} {x : Int32} (h9 : s < 5) : aR (g_set m 0 (upd (m 0) (((344 : Int32) + ((2 : Int32) * Int32.ofNat s))).toNatClampNeg x)) = g_set (aR m) 10 (upd (aR m 10) s x) := by
  have hi : s < fL 10 := h9
  have h8 := (inv_ok 10 (by decide) s hi).2.2
  rw [ri10 h9, nI_ix (by omega), aR_def, g_set_s, vA_upd _ _ hi]; rfl
theorem ro10 {s : Nat} (h9 : s < 5) : vp_in ((344 : Int32) + ((2 : Int32) * Int32.ofNat s)) 364 := by
  have hi : s < fL 10 := h9
  have h8 := (inv_ok 10 (by decide) s hi).2.2
  rw [ri10 h9]; exact vp_in_nI h8 (by omega)
theorem ri11 {s : Nat} (h9 : s < 5) : (((344 : Int32) + ((2 : Int32) * Int32.ofNat s)) + (1 : Int32)) = Int32.ofNat (fB 11 + fS 11 * s) := by
  have e1 : fB 11 = 345 := rfl
  have e2 : fS 11 = 2 := rfl
  rw [e1, e2, show 345 + 2 * s = 344 + 2 * s + 1 from by omega]
  simp only [Int32.ofNat_add, Int32.ofNat_mul]; rfl
theorem rg11 {m : gM} {s : Nat} (h9 : s < 5) : m 0 ((((344 : Int32) + ((2 : Int32) * Int32.ofNat s)) + (1 : Int32))).toNatClampNeg = aR m 11 s := by
  have hi : s < fL 11 := h9
  have h8 := (inv_ok 11 (by decide) s hi).2.2
  rw [ri11 h9, nI_ix (by omega), aR_def]; unfold vA; rw [if_pos hi]
theorem rs11 {m : gM} {s : Nat} {x : Int32} (h9 : s < 5) : aR (g_set m 0 (upd (m 0) ((((344 : Int32) + ((2 : Int32) * Int32.ofNat s)) + (1 : Int32))).toNatClampNeg x)) = g_set (aR m) 11 (upd (aR m 11) s x) := by
  have hi : s < fL 11 := h9
  have h8 := (inv_ok 11 (by decide) s hi).2.2
  rw [ri11 h9, nI_ix (by omega), aR_def, g_set_s, vA_upd _ _ hi]; rfl
theorem ro11 {s : Nat} (h9 : s < 5) : vp_in (((344 : Int32) + ((2 : Int32) * Int32.ofNat s)) + (1 : Int32)) 364 := by
  have hi : s < fL 11 := h9
  have h8 := (inv_ok 11 (by decide) s hi).2.2
  rw [ri11 h9]; exact vp_in_nI h8 (by omega)
theorem ri12 {h : Nat} (h9 : h < 4) : ((354 : Int32) + Int32.ofNat h) = Int32.ofNat (fB 12 + fS 12 * h) := by
  have e1 : fB 12 = 354 := rfl
  have e2 : fS 12 = 1 := rfl
  rw [e1, e2, show 354 + 1 * h = 354 + h from by omega]
  simp only [Int32.ofNat_add, Int32.ofNat_mul]; rfl
theorem rg12 {m : gM} {h : Nat} (h9 : h < 4) : m 0 (((354 : Int32) + Int32.ofNat h)).toNatClampNeg = aR m 12 h := by
  have hi : h < fL 12 := h9
  have h8 := (inv_ok 12 (by decide) h hi).2.2
  rw [ri12 h9, nI_ix (by omega), aR_def]; unfold vA; rw [if_pos hi]
theorem rs12 {m : gM} {h : Nat} {x : Int32} (h9 : h < 4) : aR (g_set m 0 (upd (m 0) (((354 : Int32) + Int32.ofNat h)).toNatClampNeg x)) = g_set (aR m) 12 (upd (aR m 12) h x) := by
  have hi : h < fL 12 := h9
  have h8 := (inv_ok 12 (by decide) h hi).2.2
  rw [ri12 h9, nI_ix (by omega), aR_def, g_set_s, vA_upd _ _ hi]; rfl
theorem ro12 {h : Nat} (h9 : h < 4) : vp_in ((354 : Int32) + Int32.ofNat h) 364 := by
  have hi : h < fL 12 := h9
  have h8 := (inv_ok 12 (by decide) h hi).2.2
  rw [ri12 h9]; exact vp_in_nI h8 (by omega)
theorem ri0 {k : Nat} (h9 : k < 96) : (Int32.ofNat k) = Int32.ofNat (fB 0 + fS 0 * k) := by
  have e1 : fB 0 = 0 := rfl
  have e2 : fS 0 = 1 := rfl
  rw [e1, e2, show 0 + 1 * k = k from by omega]
theorem rg0 {m : gM} {k : Nat} (h9 : k < 96) : m 0 ((Int32.ofNat k)).toNatClampNeg = aR m 0 k := by
  have hi : k < fL 0 := h9
  have h8 := (inv_ok 0 (by decide) k hi).2.2
  rw [ri0 h9, nI_ix (by omega), aR_def]; unfold vA; rw [if_pos hi]
theorem rs0 {m : gM} {k : Nat} {x : Int32} (h9 : k < 96) : aR (g_set m 0 (upd (m 0) ((Int32.ofNat k)).toNatClampNeg x)) = g_set (aR m) 0 (upd (aR m 0) k x) := by
  have hi : k < fL 0 := h9
  have h8 := (inv_ok 0 (by decide) k hi).2.2
  rw [ri0 h9, nI_ix (by omega), aR_def, g_set_s, vA_upd _ _ hi]; rfl
theorem ro0 {k : Nat} (h9 : k < 96) : vp_in (Int32.ofNat k) 364 := by
  have hi : k < fL 0 := h9
  have h8 := (inv_ok 0 (by decide) k hi).2.2
  rw [ri0 h9]; exact vp_in_nI h8 (by omega)
theorem rg13_0 {m : gM} : m 0 (358 : Int32).toNatClampNeg = aR m 13 0 := rfl
theorem rs13_0 {m : gM} {x : Int32} : aR (g_set m 0 (upd (m 0) (358 : Int32).toNatClampNeg x)) = g_set (aR m) 13 (upd (aR m 13) 0 x) := by
  have hi : 0 < fL 13 := by decide
  rw [aR_def, g_set_s, show (358 : Int32).toNatClampNeg = fB 13 + fS 13 * 0 from by decide, vA_upd _ _ hi]; rfl
theorem ro13_0 : vp_in (358 : Int32) 364 := by unfold vp_in; decide
theorem rg13_1 {m : gM} : m 0 (359 : Int32).toNatClampNeg = aR m 13 1 := rfl
theorem rs13_1 {m : gM} {x : Int32} : aR (g_set m 0 (upd (m 0) (359 : Int32).toNatClampNeg x)) = g_set (aR m) 13 (upd (aR m 13) 1 x) := by
  have hi : 1 < fL 13 := by decide
  rw [aR_def, g_set_s, show (359 : Int32).toNatClampNeg = fB 13 + fS 13 * 1 from by decide, vA_upd _ _ hi]; rfl
theorem ro13_1 : vp_in (359 : Int32) 364 := by unfold vp_in; decide
theorem rg13_2 {m : gM} : m 0 (360 : Int32).toNatClampNeg = aR m 13 2 := rfl
theorem rs13_2 {m : gM} {x : Int32} : aR (g_set m 0 (upd (m 0) (360 : Int32).toNatClampNeg x)) = g_set (aR m) 13 (upd (aR m 13) 2 x) := by
  have hi : 2 < fL 13 := by decide
  rw [aR_def, g_set_s, show (360 : Int32).toNatClampNeg = fB 13 + fS 13 * 2 from by decide, vA_upd _ _ hi]; rfl
theorem ro13_2 : vp_in (360 : Int32) 364 := by unfold vp_in; decide
theorem rg13_3 {m : gM} : m 0 (361 : Int32).toNatClampNeg = aR m 13 3 := rfl
theorem rs13_3 {m : gM} {x : Int32} : aR (g_set m 0 (upd (m 0) (361 : Int32).toNatClampNeg x)) = g_set (aR m) 13 (upd (aR m 13) 3 x) := by
  have hi : 3 < fL 13 := by decide
  rw [aR_def, g_set_s, show (361 : Int32).toNatClampNeg = fB 13 + fS 13 * 3 from by decide, vA_upd _ _ hi]; rfl
theorem ro13_3 : vp_in (361 : Int32) 364 := by unfold vp_in; decide
theorem rg13_4 {m : gM} : m 0 (362 : Int32).toNatClampNeg = aR m 13 4 := rfl
theorem rs13_4 {m : gM} {x : Int32} : aR (g_set m 0 (upd (m 0) (362 : Int32).toNatClampNeg x)) = g_set (aR m) 13 (upd (aR m 13) 4 x) := by
  have hi : 4 < fL 13 := by decide
  rw [aR_def, g_set_s, show (362 : Int32).toNatClampNeg = fB 13 + fS 13 * 4 from by decide, vA_upd _ _ hi]; rfl
theorem ro13_4 : vp_in (362 : Int32) 364 := by unfold vp_in; decide
theorem rg13_5 {m : gM} : m 0 (363 : Int32).toNatClampNeg = aR m 13 5 := rfl
theorem rs13_5 {m : gM} {x : Int32} : aR (g_set m 0 (upd (m 0) (363 : Int32).toNatClampNeg x)) = g_set (aR m) 13 (upd (aR m 13) 5 x) := by
  have hi : 5 < fL 13 := by decide
  rw [aR_def, g_set_s, show (363 : Int32).toNatClampNeg = fB 13 + fS 13 * 5 from by decide, vA_upd _ _ hi]; rfl
theorem ro13_5 : vp_in (363 : Int32) 364 := by unfold vp_in; decide
theorem aR_set {m : gM} {f : Nat → Int32} : aR (g_set m 0 f) = vA f := by rw [aR_def, g_set_s]
theorem e8l (b : Nat) : (8 : Int32) * Int32.ofNat b = Int32.ofNat (8 * b) := nI_times 8 b
theorem e8r (b : Nat) : Int32.ofNat b * (8 : Int32) = Int32.ofNat (8 * b) := by rw [show (8 : Int32) = Int32.ofNat 8 from rfl, nI_times, Nat.mul_comm]
theorem e1r (b : Nat) : Int32.ofNat b + (1 : Int32) = Int32.ofNat (b + 1) := nI_plus2 b 1
theorem e8p (b : Nat) : Int32.ofNat b + (8 : Int32) = Int32.ofNat (b + 8) := nI_plus2 b 8
theorem leI {a b : Nat} (ha : a < 2147483648) (hb : b < 2147483648) : (Int32.ofNat a ≤ Int32.ofNat b) ↔ a ≤ b := nI_leI (by omega) (by omega)
theorem ltI {a b : Nat} (ha : a < 2147483648) (hb : b < 2147483648) : (Int32.ofNat a < Int32.ofNat b) ↔ a < b := nI_ltI (by omega) (by omega)
theorem eqI {a b : Nat} (ha : a < 2147483648) (hb : b < 2147483648) : (Int32.ofNat a = Int32.ofNat b) ↔ a = b := nI_eq (by omega) (by omega)
