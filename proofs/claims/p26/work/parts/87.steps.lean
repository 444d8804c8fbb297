/-- a block is begun: it is xb from now on -/
theorem jV_sOp {e t xp s b : Nat} {A : gM} (h : jV e t 99 xp A) (hs : s < 5) (hb : b < 12) (h10 : A 10 s = -1) (h6 : A 6 b = 0) : jV e t b xp (sOp A s b) ∧ cN (sOp A s b) = cN A ∧ vL (sOp A s b) = vL A ∧ cN A b = 0 ∧ frN (sOp A s b) + 1 = frN A := by
  obtain ⟨ia, ib, ih, ic, id, ie, if', ig, ii, is⟩ := h
  have n1 : (1 : Int32) ≠ 0 := by decide
  have n2 : (2 : Int32) ≠ 0 := by decide
  have n3 : (1 : Int32) ≠ 2 := by decide
  have e0 : sOp A s b 0 = A 0 := rfl
  have e1 : sOp A s b 1 = A 1 := rfl
  have e6 : sOp A s b 6 = upd (A 6) b 1 := rfl
  have e7 : sOp A s b 7 = upd (A 7) b (Int32.ofNat s) := rfl
  have e10 : sOp A s b 10 = upd (A 10) s (Int32.ofNat b) := rfl
  have hb0 : cN A b = 0 := by
    rcases (ic b hb).2 with ⟨q, -, -⟩ | ⟨-, q, -⟩ | ⟨-, q, -⟩
    · exact q
    · rw [h6] at q; exact absurd q.symm n1
    · rw [h6] at q; exact absurd q.symm n2
  have hs1 : ∀ x, x ≠ (1 : Int32) → ∀ j, sN (sOp A s b) x j = if j = b then 0 else sN A x j := by
    intro x hx j
    unfold sN; rw [e6, upd_at]
    by_cases q : j = b
    · rw [if_pos q, if_pos q, if_neg (fun w => hx w.symm)]
    · rw [if_neg q, if_neg q]
  refine ⟨⟨ia, ib, ih, ?_, ?_, ?_, ?_, ig, ?_, is⟩, cN_c e0, vL_c e0 e1, hb0, ?_⟩
  · intro q hq
    rw [cN_c e0]
    refine ⟨(ic q hq).1, ?_⟩
    rw [e6, e7, upd_at, upd_at]
    by_cases w : q = b
    · subst w
      rw [if_pos rfl, if_pos rfl]
      exact Or.inr (Or.inl ⟨Or.inl rfl, rfl, s, hs, rfl, by rw [e10, upd_at, if_pos rfl]⟩)
    · rw [if_neg w, if_neg w]
      rcases (ic q hq).2 with z | ⟨z1, z2, s', z3, z4, z5⟩ | z
      · exact Or.inl z
      · refine Or.inr (Or.inl ⟨?_, z2, s', z3, z4, ?_⟩)
        · rcases z1 with z1 | z1
          · omega
          · exact Or.inr z1
        · rw [e10, upd_at]
          by_cases u : s' = s
          · subst u; rw [h10] at z5; exact absurd z5.symm (nI_ne1 (by omega))
          · rw [if_neg u]; exact z5
      · exact Or.inr (Or.inr z)
  · intro s' hs'
    rw [e10, e6, e7]
    by_cases u : s' = s
    · subst u
      exact Or.inr ⟨b, hb, by rw [upd_at, if_pos rfl], by rw [upd_at, if_pos rfl], by rw [upd_at, if_pos rfl]⟩
    · rw [upd_at, if_neg u]
      rcases id s' hs' with z | ⟨b', z1, z2, z3, z4⟩
      · exact Or.inl z
      · refine Or.inr ⟨b', z1, z2, ?_, ?_⟩ <;> rw [upd_at, if_neg (fun w => by subst w; rw [h6] at z3; exact n1 z3.symm)] <;> assumption
  · unfold jE; rw [vL_c e0 e1, wN_c e1]; exact ie
  · have k1 := sS_one (f := sN (sOp A s b) 1) (g := sN A 1) (i := b) 12 hb (fun j hj hne => by unfold sN; rw [e6, upd_at, if_neg hne])
    have k2 := sS_one (f := oN (sOp A s b)) (g := oN A) (i := s) 5 hs (fun j hj hne => by unfold oN; rw [e10, upd_at, if_neg hne])
    have k3 : sN (sOp A s b) 1 b = 1 := by unfold sN; rw [e6, upd_at, if_pos rfl, if_pos rfl]
    have k4 : sN A 1 b = 0 := by unfold sN; rw [h6, if_neg (by decide)]
    have k5 : oN (sOp A s b) s = 1 := by unfold oN; rw [e10, upd_at, if_pos rfl, if_neg (nI_ne1 (by omega))]
    have k6 : oN A s = 0 := by unfold oN; rw [if_pos h10]
    unfold jF at if' ⊢
    omega
  · have hx : ∀ q, sOp A s b 6 q = 2 → A 6 q = 2 := by
      intro q w
      rw [e6, upd_at] at w
      by_cases u : q = b
      · rw [if_pos u] at w; exact absurd w n3
      · rw [if_neg u] at w; exact w
    exact ⟨fun q hq w => ii.1 q hq (hx q w), fun q q' hq hq' w w' z => ii.2 q q' hq hq' (hx q w) (hx q' w') z⟩
  · have k1 := sS_one (f := sN (sOp A s b) 0) (g := sN A 0) (i := b) 12 hb (fun j hj hne => by rw [hs1 0 (by decide), if_neg hne])
    have k3 : sN (sOp A s b) 0 b = 0 := by rw [hs1 0 (by decide), if_pos rfl]
    have k4 : sN A 0 b = 1 := by unfold sN; rw [if_pos h6]
    unfold frN
    omega
/-- a page loses its place -/
theorem jV_sFg {e t xb p k : Nat} {A : gM} (h : jV e t xb 99 A) (hp : p < 40) (hk : k < 96) (h1 : A 1 p = Int32.ofNat k) : jV e t xb p (sFg A p) ∧ (∀ b, b < 12 → b ≠ k / 8 → vL (sFg A p) b = vL A b) ∧ vL (sFg A p) (k / 8) + 1 = vL A (k / 8) ∧ (∀ j, j < 96 → j ≠ k → vd (sFg A p) j = vd A j) ∧ vd (sFg A p) k = 0 ∧ A 0 k = Int32.ofNat p := by
  obtain ⟨ia, ib, ih, ic, id, ie, if', ig, ii, is⟩ := h
  have e0 : sFg A p 0 = A 0 := rfl
  have e1 : sFg A p 1 = upd (A 1) p (-1) := rfl
  have hk0 : A 0 k = Int32.ofNat p := by
    rcases ib p hp with z | ⟨k', z1, z2, z3⟩
    · rw [h1] at z; exact absurd z (nI_ne1 (by omega))
    · rw [h1] at z2; have := nI_inj (by omega) (by omega) z2; subst this; exact z3
  have v1 : ∀ j, j < 96 → j ≠ k → vd (sFg A p) j = vd A j := by
    intro j hj hne
    unfold vd
    rw [e0, e1]
    by_cases q : A 0 j = -1
    · rw [if_pos q, if_pos q]
    · rw [if_neg q, if_neg q, upd_at]
      by_cases w : (A 0 j).toNatClampNeg = p
      · rw [if_pos w, w, h1, if_neg (fun u => nI_ne1 (by omega) u.symm), if_neg (fun u => hne (nI_inj (by omega) (by omega) u).symm)]
      · rw [if_neg w]
  have v2 : vd (sFg A p) k = 0 := by
    unfold vd
    rw [e0, e1, hk0, if_neg (nI_ne1 (by omega)), nI_ix (by omega), upd_at, if_pos rfl, if_neg (fun u => nI_ne1 (by omega) u.symm)]
  have v3 : vd A k = 1 := by
    unfold vd
    rw [hk0, if_neg (nI_ne1 (by omega)), nI_ix (by omega), h1, if_pos rfl]
  have hq : 8 * (k / 8) + k % 8 = k := by omega
  obtain ⟨b1, b2, b3⟩ := blk_one (f := vd (sFg A p)) (g := vd A) (b := k / 8) (n := k % 8) (by omega) (by omega) (fun j hj hne => v1 j hj (by omega)) (by rw [hq, v2, v3])
  refine ⟨⟨ia, ?_, ?_, ?_, id, ?_, if', ig, ii, is⟩, b1, b2, v1, v2, hk0⟩
  · intro p' hp'
    rw [e1, upd_at]
    by_cases w : p' = p
    · rw [if_pos w]; exact Or.inl rfl
    · rw [if_neg w]; exact ib p' hp'
  · intro p' hp'
    rw [e1, upd_at]
    by_cases w : p' = p
    · rw [if_pos w]; exact ⟨fun u => absurd rfl u, fun u => absurd w u⟩
    · rw [if_neg w]; exact ⟨(ih p' hp').1, fun _ => (ih p' hp').2 (by omega)⟩
  · exact jC_c e0 rfl rfl rfl ic
  · have k2 := sS_one (f := wN (sFg A p)) (g := wN A) (i := p) 40 hp (fun j hj hne => by unfold wN; rw [e1, upd_at, if_neg hne])
    have k5 : wN (sFg A p) p = 0 := by unfold wN; rw [e1, upd_at, if_pos rfl, if_pos rfl]
    have k6 : wN A p = 1 := by unfold wN; rw [h1, if_neg (nI_ne1 (by omega))]
    have b3' : sS 12 (vL (sFg A p)) + 1 = sS 12 (vL A) := b3
    unfold jE at ie ⊢
    omega
/-- a page gets a place: the first blank slot of a block that is begun -/
theorem jV_sPl {e t p b h : Nat} {A : gM} (hA : jV e t b p A) (hp : p < 40) (hb : b < 12) (h1 : A 1 p = -1) (hh : h < 4) (h2 : A 2 p = Int32.ofNat h) (h6 : A 6 b = 1) (hc8 : cN A b < 8) : jV e t b 99 (sPl A p (8 * b + cN A b)) ∧ (∀ b', b' < 12 → b' ≠ b → vL (sPl A p (8 * b + cN A b)) b' = vL A b' ∧ cN (sPl A p (8 * b + cN A b)) b' = cN A b') ∧ vL (sPl A p (8 * b + cN A b)) b = vL A b + 1 ∧ cN (sPl A p (8 * b + cN A b)) b = cN A b + 1 ∧ (∀ j, j < 96 → j ≠ 8 * b + cN A b → vd (sPl A p (8 * b + cN A b)) j = vd A j) ∧ A 0 (8 * b + cN A b) = -1 ∧ sS 12 (cN (sPl A p (8 * b + cN A b))) = sS 12 (cN A) + 1 := by
  obtain ⟨ia, ib, ih, ic, id, ie, if', ig, ii, is⟩ := hA
  have hq0 : A 0 (8 * b + cN A b) = -1 := ((ic b hb).1 _ hc8).mpr (Nat.le_refl _)
  generalize hn : cN A b = n at *
  have hq96 : 8 * b + n < 96 := by omega
  have e0 : sPl A p (8 * b + n) 0 = upd (A 0) (8 * b + n) (Int32.ofNat p) := rfl
  have e1 : sPl A p (8 * b + n) 1 = upd (A 1) p (Int32.ofNat (8 * b + n)) := rfl
  have v1 : ∀ j, j < 96 → j ≠ 8 * b + n → vd (sPl A p (8 * b + n)) j = vd A j := by
    intro j hj hne
    unfold vd
    rw [e0, e1, upd_at, if_neg hne]
    by_cases q : A 0 j = -1
    · rw [if_pos q, if_pos q]
    · rw [if_neg q, if_neg q, upd_at]
      by_cases w : (A 0 j).toNatClampNeg = p
      · rw [if_pos w, w, h1, if_neg (fun u => hne (nI_inj (by omega) (by omega) u).symm), if_neg (fun u => nI_ne1 (by omega) u.symm)]
      · rw [if_neg w]
  have v2 : vd (sPl A p (8 * b + n)) (8 * b + n) = 1 := by
    unfold vd
    rw [e0, e1, upd_at, if_pos rfl, if_neg (nI_ne1 (by omega)), nI_ix (by omega), upd_at, if_pos rfl, if_pos rfl]
  have v3 : vd A (8 * b + n) = 0 := by unfold vd; rw [if_pos hq0]
  have p1 : ∀ j, j < 96 → j ≠ 8 * b + n → bN A j = bN (sPl A p (8 * b + n)) j := by
    intro j hj hne
    unfold bN; rw [e0, upd_at, if_neg hne]
  have p2 : bN (sPl A p (8 * b + n)) (8 * b + n) = 1 := by unfold bN; rw [e0, upd_at, if_pos rfl, if_neg (nI_ne1 (by omega))]
  have p3 : bN A (8 * b + n) = 0 := by unfold bN; rw [if_pos hq0]
  obtain ⟨b1, b2, b3⟩ := blk_one (f := vd A) (g := vd (sPl A p (8 * b + n))) hb hc8 (fun j hj hne => (v1 j hj hne).symm) (by rw [v2, v3])
  obtain ⟨c1, c2, c3⟩ := blk_one (f := bN A) (g := bN (sPl A p (8 * b + n))) hb hc8 p1 (by rw [p2, p3])
  have b1' : ∀ b', b' < 12 → b' ≠ b → vL (sPl A p (8 * b + n)) b' = vL A b' := fun b' q w => (b1 b' q w).symm
  have c1' : ∀ b', b' < 12 → b' ≠ b → cN (sPl A p (8 * b + n)) b' = cN A b' := fun b' q w => (c1 b' q w).symm
  have c2' : cN (sPl A p (8 * b + n)) b = n + 1 := c2.symm.trans (congrArg (fun x => x + 1) hn)
  have b3' : sS 12 (vL A) + 1 = sS 12 (vL (sPl A p (8 * b + n))) := b3
  refine ⟨⟨?_, ?_, ?_, ?_, id, ?_, if', ig, ii, is⟩, fun b' q w => ⟨b1' b' q w, c1' b' q w⟩, b2.symm, c2', v1, hq0, c3.symm⟩
  · intro j hj
    rw [e0, upd_at]
    by_cases w : j = 8 * b + n
    · rw [if_pos w]; exact Or.inr ⟨p, hp, rfl⟩
    · rw [if_neg w]; exact ia j hj
  · intro p' hp'
    rw [e1, e0, upd_at]
    by_cases w : p' = p
    · rw [if_pos w]; exact Or.inr ⟨8 * b + n, hq96, rfl, by rw [upd_at, if_pos rfl, w]⟩
    · rw [if_neg w]
      rcases ib p' hp' with z | ⟨k, z1, z2, z3⟩
      · exact Or.inl z
      · refine Or.inr ⟨k, z1, z2, ?_⟩
        rw [upd_at, if_neg (fun u => by subst u; rw [hq0] at z3; exact nI_ne1 (by omega) z3.symm)]; exact z3
  · intro p' hp'
    rw [e1, upd_at]
    by_cases w : p' = p
    · rw [if_pos w]; subst w; exact ⟨fun _ => ⟨h, hh, h2⟩, fun _ u => absurd u (nI_ne1 (by omega))⟩
    · rw [if_neg w]; exact ⟨(ih p' hp').1, fun _ => (ih p' hp').2 w⟩
  · intro b' hb'
    by_cases w : b' = b
    · subst w
      rw [c2']
      refine ⟨fun j hj => ?_, ?_⟩
      · rw [e0, upd_at]
        by_cases u : 8 * b' + j = 8 * b' + n
        · rw [if_pos u]; exact ⟨fun z => absurd z (nI_ne1 (by omega)), fun z => by omega⟩
        · rw [if_neg u]; have := (ic b' hb').1 j hj; rw [hn] at this; rw [this]; omega
      · rcases (ic b' hb').2 with ⟨-, z, -⟩ | ⟨-, -, z⟩ | ⟨-, z, -⟩
        · rw [h6] at z; exact absurd z (by decide)
        · exact Or.inr (Or.inl ⟨Or.inl rfl, h6, z⟩)
        · rw [h6] at z; exact absurd z (by decide)
    · rw [c1' b' hb' w]
      refine ⟨fun j hj => ?_, (ic b' hb').2⟩
      rw [e0, upd_at, if_neg (by omega)]; exact (ic b' hb').1 j hj
  · have k2 := sS_one (f := wN (sPl A p (8 * b + n))) (g := wN A) (i := p) 40 hp (fun j hj hne => by unfold wN; rw [e1, upd_at, if_neg hne])
    have k5 : wN (sPl A p (8 * b + n)) p = 1 := by unfold wN; rw [e1, upd_at, if_pos rfl, if_neg (nI_ne1 (by omega))]
    have k6 : wN A p = 0 := by unfold wN; rw [if_pos h1]
    unfold jE at ie ⊢
    omega
/-- a full block is shut -/
theorem jV_sCl {e t xp b s : Nat} {A : gM} (h : jV e t b xp A) (hb : b < 12) (hs : s < 5) (ht : t < 2147483600) (h6 : A 6 b = 1) (h7 : A 7 b = Int32.ofNat s) (h10 : A 10 s = Int32.ofNat b) (hc8 : cN A b = 8) : jV e (t + 1) 99 xp (sCl A b s) ∧ frN (sCl A b s) = frN A := by
  obtain ⟨ia, ib, ih, ic, id, ie, if', ⟨g1, g2, u, hu, g3⟩, ii, is⟩ := h
  have e0 : sCl A b s 0 = A 0 := rfl
  have e1 : sCl A b s 1 = A 1 := rfl
  have e6 : sCl A b s 6 = upd (A 6) b 2 := rfl
  have e7 : sCl A b s 7 = A 7 := rfl
  have e9 : sCl A b s 9 = upd (A 9) b (A 13 5) := rfl
  have e10 : sCl A b s 10 = upd (A 10) s (-1) := rfl
  have e13 : sCl A b s 13 5 = Int32.ofNat (u + 1) := by
    show upd (A 13) 5 (A 13 5 + 1) 5 = _
    rw [upd_at, if_pos rfl, g3, e1r]
  have e13' : ∀ j, j ≠ 5 → sCl A b s 13 j = A 13 j := fun j hj => by
    show upd (A 13) 5 (A 13 5 + 1) j = _
    rw [upd_at, if_neg hj]
  have n3 : (1 : Int32) ≠ 2 := by decide
  have h6' : ∀ q, q < 12 → sCl A b s 6 q = 2 → q = b ∨ A 6 q = 2 := by
    intro q hq w
    rw [e6, upd_at] at w
    by_cases z : q = b
    · exact Or.inl z
    · rw [if_neg z] at w; exact Or.inr w
  have hst : ∀ q, q < 12 → A 6 q = 2 → ∃ x, x < u ∧ A 9 q = Int32.ofNat x := by
    intro q hq w
    obtain ⟨x, u', z1, z2, z3, z4⟩ := ii.1 q hq w
    rw [g3] at z4
    have := nI_inj (by omega) (by omega) z4
    subst this
    exact ⟨x, z1, z3⟩
  refine ⟨⟨ia, ib, ih, ?_, ?_, ?_, ?_, ⟨g1, ?_, u + 1, by omega, e13⟩, ?_, ?_⟩, ?_⟩
  · intro q hq
    rw [cN_c e0, e0, e6, e7, upd_at]
    refine ⟨(ic q hq).1, ?_⟩
    by_cases w : q = b
    · subst w; rw [if_pos rfl]; exact Or.inr (Or.inr ⟨hc8, rfl, s, hs, h7⟩)
    · rw [if_neg w]
      rcases (ic q hq).2 with z | ⟨z1, z2, s', z3, z4, z5⟩ | z
      · exact Or.inl z
      · refine Or.inr (Or.inl ⟨?_, z2, s', z3, z4, ?_⟩)
        · rcases z1 with z1 | z1
          · exact absurd z1 w
          · exact Or.inr z1
        · rw [e10, upd_at, if_neg (fun v => by subst v; rw [h10] at z5; exact w (nI_inj (by omega) (by omega) z5).symm)]; exact z5
      · exact Or.inr (Or.inr z)
  · intro s' hs'
    rw [e10, e6, e7, upd_at]
    by_cases w : s' = s
    · rw [if_pos w]; exact Or.inl rfl
    · rw [if_neg w]
      rcases id s' hs' with z | ⟨b', z1, z2, z3, z4⟩
      · exact Or.inl z
      · refine Or.inr ⟨b', z1, z2, ?_, z4⟩
        rw [upd_at, if_neg (fun v => by subst v; rw [h7] at z4; exact w (nI_inj (by omega) (by omega) z4).symm)]; exact z3
  · unfold jE; rw [vL_c e0 e1, wN_c e1]; exact ie
  · have k1 := sS_one (f := sN (sCl A b s) 1) (g := sN A 1) (i := b) 12 hb (fun j hj hne => by unfold sN; rw [e6, upd_at, if_neg hne])
    have k2 := sS_one (f := oN (sCl A b s)) (g := oN A) (i := s) 5 hs (fun j hj hne => by unfold oN; rw [e10, upd_at, if_neg hne])
    have k3 : sN (sCl A b s) 1 b = 0 := by unfold sN; rw [e6, upd_at, if_pos rfl, if_neg (fun v => n3 v.symm)]
    have k4 : sN A 1 b = 1 := by unfold sN; rw [if_pos h6]
    have k5 : oN (sCl A b s) s = 0 := by unfold oN; rw [e10, upd_at, if_pos rfl, if_pos rfl]
    have k6 : oN A s = 1 := by unfold oN; rw [h10, if_neg (nI_ne1 (by omega))]
    unfold jF at if' ⊢
    omega
  · intro q hq
    rw [e9, upd_at]
    by_cases w : q = b
    · rw [if_pos w]; exact ⟨u, by omega, g3⟩
    · rw [if_neg w]; obtain ⟨x, hx, z⟩ := g2 q hq; exact ⟨x, by omega, z⟩
  · refine ⟨fun q hq w => ?_, fun q q' hq hq' w w' z => ?_⟩
    · rw [e9, upd_at]
      by_cases v : q = b
      · rw [if_pos v]; exact ⟨u, u + 1, by omega, by omega, g3, e13⟩
      · rw [if_neg v]
        rcases h6' q hq w with y | y
        · exact absurd y v
        · obtain ⟨x, hx, hz⟩ := hst q hq y; exact ⟨x, u + 1, by omega, by omega, hz, e13⟩
    · rw [e9, upd_at, upd_at] at z
      rcases h6' q hq w with y | y <;> rcases h6' q' hq' w' with y' | y'
      · rw [y, y']
      · by_cases v : q' = b
        · rw [y, v]
        · rw [if_pos y, if_neg v, g3] at z
          obtain ⟨x, hx, hz⟩ := hst q' hq' y'; rw [hz] at z; have := nI_inj (by omega) (by omega) z; omega
      · by_cases v : q = b
        · rw [y', v]
        · rw [if_neg v, if_pos y', g3] at z
          obtain ⟨x, hx, hz⟩ := hst q hq y; rw [hz] at z; have := nI_inj (by omega) (by omega) z; omega
      · have v : q ≠ b := fun v => by subst v; rw [h6] at y; exact n3 y
        have v' : q' ≠ b := fun v => by subst v; rw [h6] at y'; exact n3 y'
        rw [if_neg v, if_neg v'] at z
        exact ii.2 q q' hq hq' y y' z
  · unfold jS; rw [e13' 0 (by decide), e13' 1 (by decide)]; exact is
  · have k1 := sS_c (f := sN (sCl A b s) 0) (g := sN A 0) 12 (fun j hj => by
      unfold sN; rw [e6, upd_at]
      by_cases w : j = b
      · rw [if_pos w, if_neg (by decide), w, h6, if_neg (by decide)]
      · rw [if_neg w])
    exact k1
