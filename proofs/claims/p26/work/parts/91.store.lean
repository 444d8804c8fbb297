/-! a page is programmed, in a Store's picture -/
theorem d8 : ∀ k, k < 96 → Int32.ofNat k / (8 : Int32) = Int32.ofNat (k / 8) := by decide +kernel
theorem jC_free {xb : Nat} {A : gM} (h : jC xb A) {b : Nat} (hb : b < 12) : (A 7 b = -1 ↔ A 6 b = 0) := by
  rcases (h b hb).2 with ⟨-, h1, h2⟩ | ⟨-, h1, s, hs, h2, -⟩ | ⟨-, h1, s, hs, h2⟩
  · rw [h1, h2]; exact ⟨fun _ => rfl, fun _ => rfl⟩
  · rw [h1, h2]; exact ⟨fun w => absurd w (nI_ne1 (by omega)), fun w => absurd w (by decide)⟩
  · rw [h1, h2]; exact ⟨fun w => absurd w (nI_ne1 (by omega)), fun w => absurd w (by decide)⟩
def Ps (m : gM) (b : Nat) : Bool := decide (m 7 b = -1)
def lts (m : gM) (n i : Nat) : Bool := decide (¬ m 10 i ≤ m 10 n)
theorem open21 {m : gM} {a : Int32} : run (L_s_openBlock_21 m a) 400 ((-1 : Int32), (0 : Int32)) = (aM (Ps m) (lts m) 12, Int32.ofNat 12) ∧ rOk (L_s_openBlock_21 m a) (K_s_openBlock_21 m a) 400 ((-1 : Int32), (0 : Int32)) := by
  have hL := run_count (f := L_s_openBlock_21 m a) (K := K_s_openBlock_21 m a) (N := 12) (fuel := 400) (z := ((-1 : Int32), (0 : Int32))) (fun n z => z = (aM (Ps m) (lts m) n, Int32.ofNat n)) (fun z => z = (aM (Ps m) (lts m) 12, Int32.ofNat 12)) (by decide) rfl (fun n z hn hz => ?_) (fun z hz => ?_)
  · exact ⟨hL.2, hL.1⟩
  · subst hz
    have hlt : ¬ ((12 : Int32) ≤ Int32.ofNat n) := by intro h; have := (leI (a := 12) (by omega) (by omega)).mp h; omega
    unfold L_s_openBlock_21 K_s_openBlock_21
    by_cases q : m 7 n = -1
    · have hP : Ps m n = true := by unfold Ps; simpa using q
      rcases aM_spec (Ps m) (lts m) n (by omega) with ⟨h1, -⟩ | ⟨i, hi, h1, -⟩
      · have hM : aM (Ps m) (lts m) (n + 1) = Int32.ofNat n := if_pos ⟨hP, Or.inl h1⟩
        rw [hM]
        simp only [g_let_def, if_neg hlt, nI_ix (show n < 2147483648 by omega), e1r, if_pos q, if_pos h1]
        exact ⟨⟨vp_in_nI hn (by omega), trivial⟩, trivial, trivial⟩
      · have n1 := nI_ne1 (n := i) (by omega)
        have hne : ¬ (aM (Ps m) (lts m) n = -1) := by rw [h1]; exact n1
        by_cases w : m 10 i ≤ m 10 n
        · have hl : lts m n i = false := by unfold lts; simpa using w
          have hM : aM (Ps m) (lts m) (n + 1) = Int32.ofNat i := (if_neg (fun z => by
            rcases z.2 with z | z
            · exact hne z
            · rw [h1, nI_ix (by omega), hl] at z; cases z)).trans h1
          rw [hM]
          simp only [g_let_def, if_neg hlt, nI_ix (show n < 2147483648 by omega), e1r, if_pos q, h1, if_neg n1, nI_ix (show i < 2147483648 by omega), if_pos w]
          exact ⟨⟨vp_in_nI hn (by omega), vp_in_nI hn (by omega), vp_in_nI (show i < 12 by omega) (by omega), trivial⟩, trivial, trivial⟩
        · have hl : lts m n i = true := by unfold lts; simpa using w
          have hM : aM (Ps m) (lts m) (n + 1) = Int32.ofNat n := if_pos ⟨hP, Or.inr (by rw [h1, nI_ix (by omega)]; exact hl)⟩
          rw [hM]
          simp only [g_let_def, if_neg hlt, nI_ix (show n < 2147483648 by omega), e1r, if_pos q, h1, if_neg n1, nI_ix (show i < 2147483648 by omega), if_neg w]
          exact ⟨⟨vp_in_nI hn (by omega), vp_in_nI hn (by omega), vp_in_nI (show i < 12 by omega) (by omega), trivial⟩, trivial, trivial⟩
    · have hP : Ps m n = false := by unfold Ps; simpa using q
      have hM : aM (Ps m) (lts m) (n + 1) = aM (Ps m) (lts m) n := if_neg (fun z => by rw [hP] at z; cases z.1)
      rw [hM]
      simp only [g_let_def, if_neg hlt, nI_ix (show n < 2147483648 by omega), e1r, if_neg q]
      exact ⟨⟨vp_in_nI hn (by omega), trivial⟩, trivial, trivial⟩
  · subst hz
    have hle : (12 : Int32) ≤ Int32.ofNat 12 := by decide
    unfold L_s_openBlock_21 K_s_openBlock_21
    simp only [if_pos hle]
    exact ⟨trivial, trivial, trivial⟩
theorem openBlock_1 {m : gM} {s b : Nat} (hs : s < 5) (hb : b < 12) (h : m 12 s = Int32.ofNat b) : f_s_openBlock m (Int32.ofNat s) = (Int32.ofNat b, m) ∧ o_s_openBlock m (Int32.ofNat s) := by
  have hne : ¬ (Int32.ofNat b = -1) := nI_ne1 (by omega)
  unfold f_s_openBlock o_s_openBlock
  rw [nI_ix (by omega), h, if_neg hne, if_neg hne]
  exact ⟨rfl, vp_in_nI hs (by omega), vp_in_nI hs (by omega), trivial⟩
def mOp (m : gM) (s b : Nat) : gM := g_set (g_set (g_set m 7 (upd (m 7) b (Int32.ofNat s))) 12 (upd (m 12) s (Int32.ofNat b))) 0 (upd (m 0) 15 (m 0 15 - 1))
theorem openBlock_2 {m A : gM} {xb s b : Nat} (hR : jR m A) (hc : jC xb A) (hs : s < 5) (hb : b < 12) (h10 : A 10 s = -1) (hf : fB0 A = Int32.ofNat b) : f_s_openBlock m (Int32.ofNat s) = (Int32.ofNat b, mOp m s b) ∧ o_s_openBlock m (Int32.ofNat s) := by
  obtain ⟨-, -, R3, R4, -⟩ := hR
  have e : aM (Ps m) (lts m) 12 = fB0 A := aM_c 12 (by omega) (fun i hi => by
    unfold Ps Pf
    rw [(R3 i hi).1]
    have := jC_free hc hi
    by_cases w : A 6 i = 0
    · simp [this.mpr w, w]
    · have w' : ¬ (A 7 i = -1) := fun v => w (this.mp v)
      simp [w, w']) (fun i j hi hj _ _ => by
    unfold lts ltf
    rw [(R3 i hi).2.2.2.1, (R3 j hj).2.2.2.1])
  have hne : ¬ (Int32.ofNat b = -1) := nI_ne1 (by omega)
  have h12 : m 12 s = -1 := by rw [(R4 s hs).1, h10]
  obtain ⟨k1, k2⟩ := open21 (m := m) (a := Int32.ofNat s)
  unfold f_s_openBlock o_s_openBlock
  rw [nI_ix (by omega), h12, if_pos rfl, if_pos rfl]
  simp only [g_let_def, k1, e, hf, if_neg hne, nI_ix (show b < 2147483648 by omega)]
  exact ⟨rfl, vp_in_nI hs (by omega), k2, vp_in_nI hb (by omega), vp_in_nI hs (by omega), trivial⟩
theorem jR_sOp {m A : gM} {s b : Nat} (hR : jR m A) (hs : s < 5) (hb : b < 12) (hfr : frN (sOp A s b) + 1 = frN A) : jR (mOp m s b) (sOp A s b) := by
  obtain ⟨R1, R2, R3, R4, R5, R6, R7, R8, R9⟩ := hR
  refine ⟨R1, R2, fun q hq => ?_, fun q hq => ?_, R5, R6, R7, ?_, R9⟩
  · obtain ⟨a1, a2, a3, a4, a5⟩ := R3 q hq
    refine ⟨?_, ?_, ?_, a4, a5⟩
    · show upd (m 7) b (Int32.ofNat s) q = upd (A 7) b (Int32.ofNat s) q
      rw [upd_at, upd_at, a1]
    · rw [show cN (sOp A s b) = cN A from cN_c rfl]; exact a2
    · rw [show vL (sOp A s b) = vL A from vL_c rfl rfl]; exact a3
  · obtain ⟨a1, a2⟩ := R4 q hq
    refine ⟨?_, a2⟩
    show upd (m 12) s (Int32.ofNat b) q = upd (A 10) s (Int32.ofNat b) q
    rw [upd_at, upd_at, a1]
  · show upd (m 0) 15 (m 0 15 - 1) 15 = _
    rw [upd_at, if_pos rfl, R8, ← hfr]; exact nI_pred _
def mQp (m : gM) (p s b q : Nat) : gM := g_set (g_set (g_set (g_set (g_set m 1 (upd (m 1) p (Int32.ofNat q))) 6 (upd (m 6) q (Int32.ofNat p))) 9 (upd (m 9) b (m 9 b + 1))) 8 (upd (m 8) b (m 8 b + 1))) 13 (upd (m 13) s (m 13 s + 1))
def mCp (z : gM) (s b : Nat) : gM := g_set (g_set (g_set z 12 (upd (z 12) s (-1))) 11 (upd (z 11) b (z 0 16))) 0 (upd (z 0) 16 (z 0 16 + 1))
def mFp (m : gM) (k : Nat) : gM := g_set m 9 (upd (m 9) (k / 8) (m 9 (k / 8) - 1))
theorem program_1 {m : gM} {p s b n : Nat} (hp : p < 40) (hs : s < 5) (hb : b < 12) (hn : n < 8) (h8 : m 8 b = Int32.ofNat n) (h1 : m 1 p = -1) : f_s_program m (Int32.ofNat p) (Int32.ofNat s) (Int32.ofNat b) = (if n = 7 then mCp (mQp m p s b (8 * b + n)) s b else mQp m p s b (8 * b + n)) ∧ o_s_program m (Int32.ofNat p) (Int32.ofNat s) (Int32.ofNat b) := by
  have hne : ¬ (Int32.ofNat b = -1) := nI_ne1 (by omega)
  have h88 : Int32.ofNat n < (8 : Int32) := (ltI (b := 8) (by omega) (by omega)).mpr hn
  have ib := nI_ix (show b < 2147483648 by omega)
  have ip := nI_ix (show p < 2147483648 by omega)
  have is := nI_ix (show s < 2147483648 by omega)
  have iq := nI_ix (show 8 * b + n < 2147483648 by omega)
  have ro : ∀ {i N : Nat}, i < N → N < 100 → vp_in (Int32.ofNat i) N := fun h h' => vp_in_nI h (by omega)
  have hz : (mQp m p s b (8 * b + n)) 8 b = Int32.ofNat (n + 1) := by
    show upd (m 8) b (m 8 b + 1) b = _; rw [upd_at, if_pos rfl, h8, e1r]
  unfold f_s_program o_s_program
  rw [if_neg hne, if_neg hne]
  simp only [ib, ip, is, h8, if_pos h88, g_let_def, h1, if_true, e8r, nI_plus2, iq]
  by_cases h7 : n = 7
  · have hc : (mQp m p s b (8 * b + n)) 8 b = (8 : Int32) := by rw [hz, h7]; rfl
    rw [if_pos h7]
    refine ⟨(if_pos hc).trans rfl, ro hb (by omega), ro hp (by omega), ro hb (by omega), ro hp (by omega), ro (by omega) (by omega), ro hb (by omega), ro hb (by omega), ro hb (by omega), ro hb (by omega), ro hs (by omega), ro hs (by omega), ro hb (by omega), ?_⟩
    exact (if_pos hc).mpr ⟨ro hs (by omega), ro hb (by omega), trivial⟩
  · have hc : ¬ ((mQp m p s b (8 * b + n)) 8 b = (8 : Int32)) := by
      rw [hz]; intro w; have := nI_inj (b := 8) (by omega) (by omega) w; omega
    rw [if_neg h7]
    refine ⟨(if_neg hc).trans rfl, ro hb (by omega), ro hp (by omega), ro hb (by omega), ro hp (by omega), ro (by omega) (by omega), ro hb (by omega), ro hb (by omega), ro hb (by omega), ro hb (by omega), ro hs (by omega), ro hs (by omega), ro hb (by omega), ?_⟩
    exact (if_neg hc).mpr trivial
theorem program_2 {m : gM} {p s b n k : Nat} (hp : p < 40) (hs : s < 5) (hb : b < 12) (hn : n < 8) (h8 : m 8 b = Int32.ofNat n) (hk : k < 96) (h1 : m 1 p = Int32.ofNat k) : f_s_program m (Int32.ofNat p) (Int32.ofNat s) (Int32.ofNat b) = (if n = 7 then mCp (mQp (mFp m k) p s b (8 * b + n)) s b else mQp (mFp m k) p s b (8 * b + n)) ∧ o_s_program m (Int32.ofNat p) (Int32.ofNat s) (Int32.ofNat b) := by
  have hne : ¬ (Int32.ofNat b = -1) := nI_ne1 (by omega)
  have hnk : ¬ (Int32.ofNat k = -1) := nI_ne1 (by omega)
  have h88 : Int32.ofNat n < (8 : Int32) := (ltI (b := 8) (by omega) (by omega)).mpr hn
  have ib := nI_ix (show b < 2147483648 by omega)
  have ip := nI_ix (show p < 2147483648 by omega)
  have is := nI_ix (show s < 2147483648 by omega)
  have iq := nI_ix (show 8 * b + n < 2147483648 by omega)
  have ik := nI_ix (show k / 8 < 2147483648 by omega)
  have ro : ∀ {i N : Nat}, i < N → N < 100 → vp_in (Int32.ofNat i) N := fun h h' => vp_in_nI h (by omega)
  have hf8 : ∀ x, g_set m 9 x 8 b = Int32.ofNat n := fun x => h8
  have hz : (mQp (mFp m k) p s b (8 * b + n)) 8 b = Int32.ofNat (n + 1) := by
    show upd (m 8) b (m 8 b + 1) b = _; rw [upd_at, if_pos rfl, h8, e1r]
  unfold f_s_program o_s_program
  rw [if_neg hne, if_neg hne]
  simp only [ib, ip, is, h8, if_pos h88, g_let_def, h1, if_neg hnk, e8r, d8 k hk, ik, hf8, nI_plus2, iq]
  by_cases h7 : n = 7
  · have hc : (mQp (mFp m k) p s b (8 * b + n)) 8 b = (8 : Int32) := by rw [hz, h7]; rfl
    rw [if_pos h7]
    refine ⟨(if_pos hc).trans rfl, ro hb (by omega), ro hp (by omega), ro (by omega) (by omega), ro (by omega) (by omega), ro hb (by omega), ro hp (by omega), ro (by omega) (by omega), ro hb (by omega), ro hb (by omega), ro hb (by omega), ro hb (by omega), ro hs (by omega), ro hs (by omega), ro hb (by omega), ?_⟩
    exact (if_pos hc).mpr ⟨ro hs (by omega), ro hb (by omega), trivial⟩
  · have hc : ¬ ((mQp (mFp m k) p s b (8 * b + n)) 8 b = (8 : Int32)) := by
      rw [hz]; intro w; have := nI_inj (b := 8) (by omega) (by omega) w; omega
    rw [if_neg h7]
    refine ⟨(if_neg hc).trans rfl, ro hb (by omega), ro hp (by omega), ro (by omega) (by omega), ro (by omega) (by omega), ro hb (by omega), ro hp (by omega), ro (by omega) (by omega), ro hb (by omega), ro hb (by omega), ro hb (by omega), ro hb (by omega), ro hs (by omega), ro hs (by omega), ro hb (by omega), ?_⟩
    exact (if_neg hc).mpr trivial
