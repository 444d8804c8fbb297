/-! a page is written, on both sides -/
def sWr (A : gM) (p : Nat) : gM := sIn (sIn A 3 p (A 3 p + 1)) 5 p 0
theorem prA_sWr (A : gM) (p s b : Nat) : prA (sWr A p) p s b = sWr (prA A p s b) p := by
  have hc : cN (sWr A p) = cN A := cN_c rfl
  unfold prA
  rw [hc]
  by_cases h7 : cN A b = 7
  · simp only [if_pos h7]
    refine gM_ext (fun f hf => ?_) (fun f hf => ?_)
    · match f, hf with
      | 0, _ => rfl
      | 1, _ => rfl
      | 2, _ => rfl
      | 3, _ => rfl
      | 4, _ => rfl
      | 5, _ => rfl
      | 6, _ => rfl
      | 7, _ => rfl
      | 8, _ => rfl
      | 9, _ => rfl
      | 10, _ => rfl
      | 11, _ => rfl
      | 12, _ => rfl
      | 13, _ => rfl
      | 14, _ => rfl
      | 15, _ => rfl
      | n + 16, h => omega
    · simp only [sCl, sIn, sPl, sWr, g_set_at, if_neg (show ¬ f = 0 by omega), if_neg (show ¬ f = 1 by omega), if_neg (show ¬ f = 3 by omega), if_neg (show ¬ f = 5 by omega), if_neg (show ¬ f = 6 by omega), if_neg (show ¬ f = 7 by omega), if_neg (show ¬ f = 9 by omega), if_neg (show ¬ f = 10 by omega), if_neg (show ¬ f = 11 by omega), if_neg (show ¬ f = 13 by omega)]
  · simp only [if_neg h7]
    refine gM_ext (fun f hf => ?_) (fun f hf => ?_)
    · match f, hf with
      | 0, _ => rfl
      | 1, _ => rfl
      | 2, _ => rfl
      | 3, _ => rfl
      | 4, _ => rfl
      | 5, _ => rfl
      | 6, _ => rfl
      | 7, _ => rfl
      | 8, _ => rfl
      | 9, _ => rfl
      | 10, _ => rfl
      | 11, _ => rfl
      | 12, _ => rfl
      | 13, _ => rfl
      | 14, _ => rfl
      | 15, _ => rfl
      | n + 16, h => omega
    · simp only [sIn, sPl, sWr, g_set_at, if_neg (show ¬ f = 0 by omega), if_neg (show ¬ f = 1 by omega), if_neg (show ¬ f = 3 by omega), if_neg (show ¬ f = 5 by omega), if_neg (show ¬ f = 6 by omega), if_neg (show ¬ f = 7 by omega), if_neg (show ¬ f = 9 by omega), if_neg (show ¬ f = 10 by omega), if_neg (show ¬ f = 11 by omega), if_neg (show ¬ f = 13 by omega)]
theorem sOp_sWr (A : gM) (p s b : Nat) : sOp (sWr A p) s b = sWr (sOp A s b) p := by
  refine gM_ext (fun f hf => ?_) (fun f hf => ?_)
  · match f, hf with
    | 0, _ => rfl
    | 1, _ => rfl
    | 2, _ => rfl
    | 3, _ => rfl
    | 4, _ => rfl
    | 5, _ => rfl
    | 6, _ => rfl
    | 7, _ => rfl
    | 8, _ => rfl
    | 9, _ => rfl
    | 10, _ => rfl
    | 11, _ => rfl
    | 12, _ => rfl
    | 13, _ => rfl
    | 14, _ => rfl
    | 15, _ => rfl
    | n + 16, h => omega
  · simp only [sOp, sIn, sWr, g_set_at, if_neg (show ¬ f = 0 by omega), if_neg (show ¬ f = 1 by omega), if_neg (show ¬ f = 3 by omega), if_neg (show ¬ f = 5 by omega), if_neg (show ¬ f = 6 by omega), if_neg (show ¬ f = 7 by omega), if_neg (show ¬ f = 9 by omega), if_neg (show ¬ f = 10 by omega), if_neg (show ¬ f = 11 by omega), if_neg (show ¬ f = 13 by omega)]
theorem pgA_sWr (A : gM) (p s : Nat) : pgA (sWr A p) p s = sWr (pgA A p s) p := by
  have h10 : sWr A p 10 = A 10 := rfl
  have hf : fB0 (sWr A p) = fB0 A := rfl
  unfold pgA
  rw [h10, hf]
  by_cases q : A 10 s = -1
  · rw [if_pos q, if_pos q, sOp_sWr, prA_sWr]
  · rw [if_neg q, if_neg q, prA_sWr]
def jW (e t : Nat) (A : gM) : Prop := (∃ n, n ≤ e ∧ A 13 2 = Int32.ofNat n) ∧ (∃ n, n ≤ t ∧ A 13 3 = Int32.ofNat n) ∧ A 13 3 = A 11 4 ∧ A 13 4 = sI 12 (A 8) ∧ A 13 2 = sI 40 (A 3)
def jT (e t : Nat) (A : gM) : Prop := jV e t 99 99 A ∧ jW e t A ∧ 1 ≤ frN A
def jQ (e t : Nat) (m A : gM) : Prop := jR m A ∧ jT e t A
theorem jT_up {e t e' t' : Nat} {A : gM} (h : jT e t A) (he : e ≤ e') (ht : t ≤ t') : jT e' t' A := by
  obtain ⟨h1, ⟨⟨n, hn, q⟩, ⟨n', hn', q'⟩, h2⟩, h3⟩ := h
  exact ⟨jV_up h1 he ht, ⟨⟨n, by omega, q⟩, ⟨n', by omega, q'⟩, h2⟩, h3⟩
theorem jQ_up {e t e' t' : Nat} {m A : gM} (h : jQ e t m A) (he : e ≤ e') (ht : t ≤ t') : jQ e' t' m A := ⟨h.1, jT_up h.2 he ht⟩
/-- after victims are collected -/
theorem jT_M {e t x c : Nat} {A A' : gM} (h : jT e t A) (hV : jV (e + 96) (t + 768) 99 99 A') (hM : jM A A' x c) (hc : c ≤ 96) : jT (e + 96) (t + 768) A' := by
  obtain ⟨h1, ⟨⟨n, hn, q⟩, ⟨n', hn', q'⟩, h2, h3, h4⟩, h5⟩ := h
  obtain ⟨⟨a0, a1, a2, a3, a4⟩, a5, a6, a7, a8, a9⟩ := hM
  refine ⟨hV, ⟨⟨n, by omega, by rw [a2, q]⟩, ⟨n' + x, by omega, by rw [a3, q', nI_plus2]⟩, by rw [a3, a5, h2], by rw [a4, a7, h3], by rw [a2, a6, h4]⟩, a8⟩
theorem jV_hint {e t p h : Nat} {A : gM} (hA : jV e t 99 99 A) (hh : h < 4) : jV e t 99 p (sIn A 2 p (Int32.ofNat h)) := by
  obtain ⟨ia, ib, ih, ic, id, ie, if', ig, ii, is⟩ := hA
  refine ⟨ia, ib, fun q hq => ?_, ?_, id, ?_, if', ig, ii, is⟩
  · have e1 : sIn A 2 p (Int32.ofNat h) 1 = A 1 := rfl
    have e2 : sIn A 2 p (Int32.ofNat h) 2 q = upd (A 2) p (Int32.ofNat h) q := rfl
    rw [e1, e2, upd_at]
    by_cases w : q = p
    · rw [if_pos w]; exact ⟨fun _ => ⟨h, hh, rfl⟩, fun z => absurd w z⟩
    · rw [if_neg w]; exact ⟨(ih q hq).1, fun _ => (ih q hq).2 (by omega)⟩
  · exact jC_c (A := A) rfl rfl rfl rfl ic
  · unfold jE; rw [show vL (sIn A 2 p (Int32.ofNat h)) = vL A from vL_c rfl rfl, show wN (sIn A 2 p (Int32.ofNat h)) = wN A from wN_c rfl]; exact ie
theorem jR_hint {m A : gM} {p h : Nat} (hR : jR m A) : jR (g_set m 2 (upd (m 2) p (Int32.ofNat h))) (sIn A 2 p (Int32.ofNat h)) := by
  obtain ⟨R1, R2, R3, R4, R5, R6, R7, R8, R9⟩ := hR
  refine ⟨fun q hq => ?_, R2, ?_, R4, R5, R6, R7, R8, R9⟩
  · obtain ⟨a1, a2, a3⟩ := R1 q hq
    refine ⟨a1, ?_, a3⟩
    show upd (A 2) p (Int32.ofNat h) q ≠ -1 → upd (m 2) p (Int32.ofNat h) q = upd (A 2) p (Int32.ofNat h) q
    rw [upd_at, upd_at]
    by_cases w : q = p
    · rw [if_pos w, if_pos w]; exact fun _ => rfl
    · rw [if_neg w, if_neg w]; exact a2
  · rw [show cN (sIn A 2 p (Int32.ofNat h)) = cN A from cN_c rfl, show vL (sIn A 2 p (Int32.ofNat h)) = vL A from vL_c rfl rfl]; exact R3
def mWr (m : gM) (p : Nat) : gM := g_set (g_set m 5 (upd (m 5) p 0)) 3 (upd (m 3) p (m 3 p + 1))
theorem jR_sWr {m A : gM} {p : Nat} (hR : jR m A) (hp : p < 40) : jR (mWr m p) (sWr A p) := by
  obtain ⟨R1, R2, R3, R4, R5, R6, R7, R8, R9⟩ := hR
  refine ⟨fun q hq => ?_, R2, ?_, R4, R5, R6, R7, R8, R9⟩
  · obtain ⟨a1, a2, a3, a4, a5⟩ := R1 q hq
    refine ⟨a1, a2, ?_, a4, ?_⟩
    · show upd (m 3) p (m 3 p + 1) q = upd (A 3) p (A 3 p + 1) q
      rw [upd_at, upd_at, a3, (R1 p hp).2.2.1]
    · show upd (m 5) p 0 q = upd (A 5) p 0 q
      rw [upd_at, upd_at, a5]
  · rw [show cN (sWr A p) = cN A from cN_c rfl, show vL (sWr A p) = vL A from vL_c rfl rfl]; exact R3
/-- what a write leaves and does -/
def jX (A A' : gM) (p x : Nat) : Prop := A' 13 0 = A 13 0 ∧ A' 13 1 = A 13 1 ∧ A' 13 2 = A 13 2 + 1 ∧ A' 13 3 = A 13 3 + Int32.ofNat x ∧ A' 1 p ≠ -1
theorem writes_RS {mr m A : gM} {e t p h : Nat} (hr : aR mr = A) (hQ : jQ e t m A) (hp : p < 40) (hh : h < 4) (he : e + 97 < 100000000) (ht : t + 776 < 800000000) :
    o_r_writes mr (Int32.ofNat p) (Int32.ofNat h) ∧ o_s_writePage m (Int32.ofNat p) (Int32.ofNat h) ∧ ∃ x, (f_r_writes mr (Int32.ofNat p) (Int32.ofNat h)).1 = Int32.ofNat x ∧ jQ (e + 97) (t + 776) (f_s_writePage m (Int32.ofNat p) (Int32.ofNat h)) (aR (f_r_writes mr (Int32.ofNat p) (Int32.ofNat h)).2) ∧ jX A (aR (f_r_writes mr (Int32.ofNat p) (Int32.ofNat h)).2) p x := by
  obtain ⟨hR, hT⟩ := hQ
  have hT0 := hT
  obtain ⟨hV, hW, hF⟩ := hT
  have hs : ∃ many, many ≤ 4 ∧ 2 ≤ many ∧ A 13 1 = Int32.ofNat many := by
    obtain ⟨-, -, -, -, -, -, -, -, -, -, s | s | s⟩ := hV
    · exact ⟨2, by omega, by omega, s⟩
    · exact ⟨3, by omega, by omega, s⟩
    · exact ⟨4, by omega, by omega, s⟩
  obtain ⟨many, hm4, hm2, hmA⟩ := hs
  have hmr : mr 0 (359 : Int32).toNatClampNeg = Int32.ofNat many := by rw [rg13_1 (m := mr), hr, hmA]
  have hms : m 15 (1 : Int32).toNatClampNeg = Int32.ofNat many := by rw [← hmA]; exact hR.2.2.2.2.2.2.1
  obtain ⟨k1, k2, c, x, k3, k4, k5, k6, k7, k8, k9⟩ := frees_RS hr hR hV (show many ≤ 12 by omega) hF he ht
  have hT1 := jT_M hT0 k7 k8 k3
  have ip := nI_ix (show p < 2147483648 by omega)
  have vp := vp_in_nI hp (show 40 < 2 ^ 31 by omega)
  unfold f_r_writes o_r_writes f_s_writePage o_s_writePage
  simp only [g_let_def, hmr, hms, ip]
  generalize f_r_frees mr (Int32.ofNat many) = F at *
  generalize f_s_collectVictims m (Int32.ofNat many) = G at *
  generalize hA1 : aR F.2 = A1 at *
  have hz4 : aR (g_set F.2 0 (upd (F.2 0) (((144 : Int32) + ((5 : Int32) * Int32.ofNat p)) + (1 : Int32)).toNatClampNeg (Int32.ofNat h))) = sIn A1 2 p (Int32.ofNat h) := by
    rw [rs2 hp, hA1]; rfl
  generalize g_set F.2 0 (upd (F.2 0) (((144 : Int32) + ((5 : Int32) * Int32.ofNat p)) + (1 : Int32)).toNatClampNeg (Int32.ofNat h)) = Z4 at *
  have hV2 := jV_hint (p := p) k7 hh
  have hfr2 : 2 ≤ frN A1 := by omega
  have hav : 1 ≤ avN h (sIn A1 2 p (Int32.ofNat h)) := by
    unfold avN; rw [show frN (sIn A1 2 p (Int32.ofNat h)) = frN A1 from frN_c rfl]; omega
  obtain ⟨r1, r2⟩ := prog_ref (mr := Z4) (s := h) hz4 hV2 hp (by omega) hav
  have hR2 := jR_hint (p := p) (h := h) k6
  have hR3 := jR_sWr hR2 hp
  have hV3 : jV (e + 96) (t + 768) 99 p (sWr (sIn A1 2 p (Int32.ofNat h)) p) := by
    refine jV_c (A := sIn A1 2 p (Int32.ofNat h)) rfl rfl rfl rfl rfl rfl rfl rfl rfl ?_ hV2
    obtain ⟨-, -, -, -, -, -, -, -, -, s⟩ := hV2
    exact s
  have h2p : sWr (sIn A1 2 p (Int32.ofNat h)) p 2 p = Int32.ofNat h := by
    show upd (A1 2) p (Int32.ofNat h) p = _; rw [upd_at, if_pos rfl]
  have hav3 : 1 ≤ avN h (sWr (sIn A1 2 p (Int32.ofNat h)) p) := by
    unfold avN; rw [show frN (sWr (sIn A1 2 p (Int32.ofNat h)) p) = frN A1 from frN_c rfl]; omega
  obtain ⟨s1, s2, s3, s4, s5⟩ := prog_step (s := h) hR3 hV3 (Or.inr rfl) hp (by omega) (by omega) hh h2p hav3
  rw [pgA_sWr] at s3 s4 s5
  have hst : g_set (g_set (g_set G.2 2 (upd (G.2 2) p (Int32.ofNat h))) 5 (upd ((g_set G.2 2 (upd (G.2 2) p (Int32.ofNat h))) 5) p 0)) 3 (upd ((g_set (g_set G.2 2 (upd (G.2 2) p (Int32.ofNat h))) 5 (upd ((g_set G.2 2 (upd (G.2 2) p (Int32.ofNat h))) 5) p 0)) 3) p (((g_set (g_set G.2 2 (upd (G.2 2) p (Int32.ofNat h))) 5 (upd ((g_set G.2 2 (upd (G.2 2) p (Int32.ofNat h))) 5) p 0)) 3 p) + 1)) = mWr (g_set G.2 2 (upd (G.2 2) p (Int32.ofNat h))) p := rfl
  rw [hst]
  refine ⟨⟨k1, ro2 hp, r2, ro3 hp, ro3 hp, ro5 hp, trivial⟩, ⟨k2, vp, vp, vp, vp, s1, s2, trivial⟩, x, k5, ?_⟩
  simp only [rs13_2, rg13_2, rs5 hp, rs3 hp, rg3 hp, r1]
  obtain ⟨q1, q2, q3, q4, q5, ⟨q6, q7, q8, q9, q10, q11⟩, q12, q13, q14, q15, q16, q17, q18⟩ := s5
  generalize hP : sWr (pgA (sIn A1 2 p (Int32.ofNat h)) p h) p = P at *
  have hPe : g_set (g_set (g_set (pgA (sIn A1 2 p (Int32.ofNat h)) p h) 3 (upd (pgA (sIn A1 2 p (Int32.ofNat h)) p h 3) p (pgA (sIn A1 2 p (Int32.ofNat h)) p h 3 p + 1))) 5 (upd (g_set (pgA (sIn A1 2 p (Int32.ofNat h)) p h) 3 (upd (pgA (sIn A1 2 p (Int32.ofNat h)) p h 3) p (pgA (sIn A1 2 p (Int32.ofNat h)) p h 3 p + 1)) 5) p 0)) 13 (upd (g_set (g_set (pgA (sIn A1 2 p (Int32.ofNat h)) p h) 3 (upd (pgA (sIn A1 2 p (Int32.ofNat h)) p h 3) p (pgA (sIn A1 2 p (Int32.ofNat h)) p h 3 p + 1))) 5 (upd (g_set (pgA (sIn A1 2 p (Int32.ofNat h)) p h) 3 (upd (pgA (sIn A1 2 p (Int32.ofNat h)) p h 3) p (pgA (sIn A1 2 p (Int32.ofNat h)) p h 3 p + 1)) 5) p 0) 13) 2 ((g_set (g_set (pgA (sIn A1 2 p (Int32.ofNat h)) p h) 3 (upd (pgA (sIn A1 2 p (Int32.ofNat h)) p h 3) p (pgA (sIn A1 2 p (Int32.ofNat h)) p h 3 p + 1))) 5 (upd (g_set (pgA (sIn A1 2 p (Int32.ofNat h)) p h) 3 (upd (pgA (sIn A1 2 p (Int32.ofNat h)) p h 3) p (pgA (sIn A1 2 p (Int32.ofNat h)) p h 3 p + 1)) 5) p 0) 13 2) + 1)) = sIn P 13 2 (P 13 2 + 1) := by rw [← hP]; rfl
  rw [hPe]
  obtain ⟨-, ⟨⟨n, hn, w1⟩, ⟨n', hn', w2⟩, w3, w4, w5⟩, -⟩ := hT1
  have b13 : ∀ j, j ≠ 5 → P 13 j = A1 13 j := fun j hj => by rw [q12 j hj]; rfl
  have f0 : sIn P 13 2 (P 13 2 + 1) 13 2 = A1 13 2 + 1 := by show upd (P 13) 2 (P 13 2 + 1) 2 = _; rw [upd_at, if_pos rfl, b13 2 (by decide)]
  have f1 : ∀ j, j ≠ 2 → j ≠ 5 → sIn P 13 2 (P 13 2 + 1) 13 j = A1 13 j := fun j hj hj5 => by show upd (P 13) 2 (P 13 2 + 1) j = _; rw [upd_at, if_neg hj, b13 j hj5]
  obtain ⟨⟨a0, a1, a2, a3, a4⟩, -⟩ := k8
  refine ⟨⟨jR_13 s3 (by decide) (by decide) (by decide), jV_up (jV_13 s4 (by decide) (by decide) (by decide)) (by omega) (by omega), ⟨⟨n + 1, by omega, by rw [f0, w1, e1r]⟩, ⟨n', by omega, by rw [f1 3 (by decide) (by decide), w2]⟩, ?_, ?_, ?_⟩, ?_⟩, ⟨by rw [f1 0 (by decide) (by decide), a0], by rw [f1 1 (by decide) (by decide), a1], by rw [f0, a2], by rw [f1 3 (by decide) (by decide), a3], q18⟩⟩
  · rw [f1 3 (by decide) (by decide), w3]
    show A1 11 4 = P 11 4
    rw [q13 4 (by omega)]; rfl
  · rw [f1 4 (by decide) (by decide), w4]
    show sI 12 (A1 8) = sI 12 (P 8)
    rw [q10]; rfl
  · rw [f0, w5]
    show sI 40 (A1 3) + 1 = sI 40 (P 3)
    rw [q7]; exact (sI_upd hp).symm
  · have q15' : frN A1 ≤ frN P + 1 := q15
    show 1 ≤ frN P
    omega
