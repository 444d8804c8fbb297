theorem upd_upd (f : Nat → Int32) (i : Nat) (x y : Int32) : upd (upd f i x) i y = upd f i y := by
  funext j; rw [upd_at, upd_at, upd_at]; split <;> rfl
theorem sPl_sFg (A : gM) (p q : Nat) : sPl (sFg A p) p q = sPl A p q := by
  have h0 : sFg A p 0 = A 0 := rfl
  have h1 : sFg A p 1 = upd (A 1) p (-1) := rfl
  unfold sPl
  rw [h0, h1, upd_upd]
  funext f
  rw [g_set_at, g_set_at, g_set_at, g_set_at]
  unfold sFg
  rw [g_set_at]
  split
  · rfl
  · split
    · rfl
    · rfl
/-- where page p lies: 1 for its block -/
def atB (A : gM) (p b : Nat) : Nat := if A 1 p = -1 then 0 else if (A 1 p).toNatClampNeg / 8 = b then 1 else 0
theorem sPl_ok {e t xp p b h : Nat} {A : gM} (hA : jV e t b xp A) (hx : xp = 99 ∨ xp = p) (hp : p < 40) (hb : b < 12) (h6 : A 6 b = 1) (hh : h < 4) (h2 : A 2 p = Int32.ofNat h) (h8 : cN A b < 8) :
    jV e t b 99 (sPl A p (8 * b + cN A b)) ∧
    (∀ j, j < 96 → j ≠ 8 * b + cN A b → A 1 p ≠ Int32.ofNat j → vd (sPl A p (8 * b + cN A b)) j = vd A j) ∧
    (∀ j, j < 96 → A 1 p = Int32.ofNat j → vd (sPl A p (8 * b + cN A b)) j = 0 ∧ A 0 j = Int32.ofNat p) ∧
    A 0 (8 * b + cN A b) = -1 ∧
    (∀ b', b' < 12 → b' ≠ b → cN (sPl A p (8 * b + cN A b)) b' = cN A b') ∧ cN (sPl A p (8 * b + cN A b)) b = cN A b + 1 ∧
    sS 12 (cN (sPl A p (8 * b + cN A b))) = sS 12 (cN A) + 1 ∧
    (∀ b', b' < 12 → vL (sPl A p (8 * b + cN A b)) b' + atB A p b' = vL A b' + (if b' = b then 1 else 0)) := by
  have hA0 := hA
  obtain ⟨ia, ib, ih, ic, id, ie, if', ig, ii, is⟩ := hA
  by_cases h1 : A 1 p = -1
  · have hA' : jV e t b p A := by
      refine ⟨ia, ib, ?_, ic, id, ie, if', ig, ii, is⟩
      rcases hx with rfl | rfl
      · exact jH_x p ih
      · exact ih
    obtain ⟨r1, r2, r3, r4, r5, r6, r7⟩ := jV_sPl hA' hp hb h1 hh h2 h6 h8
    refine ⟨r1, fun j hj hne _ => r5 j hj hne, fun j hj w => absurd (h1.symm.trans w).symm (nI_ne1 (by omega)), r6, fun b' q w => (r2 b' q w).2, r4, r7, fun b' q => ?_⟩
    have ha : atB A p b' = 0 := by unfold atB; rw [if_pos h1]
    rw [ha]
    by_cases w : b' = b
    · subst w; rw [if_pos rfl, r3]
    · rw [if_neg w, (r2 b' q w).1]
  · rcases ib p hp with z | ⟨k, hk, h1k, -⟩
    · exact absurd z h1
    · have hA' : jV e t b 99 A := by
        refine ⟨ia, ib, fun q hq => ⟨(ih q hq).1, fun _ w => ?_⟩, ic, id, ie, if', ig, ii, is⟩
        by_cases v : q = p
        · subst v; exact absurd w h1
        · exact (ih q hq).2 (by omega) w
      obtain ⟨s1, s2, s3, s4, s5, s6⟩ := jV_sFg hA' hp hk h1k
      have hc : cN (sFg A p) = cN A := cN_c rfl
      have h8' : cN (sFg A p) b < 8 := by rw [hc]; exact h8
      have hf1 : sFg A p 1 p = -1 := by show upd (A 1) p (-1) p = _; rw [upd_at, if_pos rfl]
      obtain ⟨r1, r2, r3, r4, r5, r6, r7⟩ := jV_sPl s1 hp hb hf1 hh h2 h6 h8'
      rw [sPl_sFg, hc] at r1 r2 r3 r4 r5 r7
      rw [hc] at r6
      have r6' : A 0 (8 * b + cN A b) = -1 := r6
      have hkq : k ≠ 8 * b + cN A b := fun w => by subst w; rw [r6'] at s6; exact nI_ne1 (by omega) s6.symm
      refine ⟨r1, fun j hj hne w => ?_, fun j hj w => ?_, r6', fun b' q w => (r2 b' q w).2, r4, r7, fun b' q => ?_⟩
      · rw [r5 j hj hne, s4 j hj (fun v => by subst v; exact w h1k)]
      · rw [h1k] at w
        have := nI_inj (by omega) (by omega) w
        subst this
        exact ⟨by rw [r5 k hk hkq, s5], s6⟩
      · have ha : atB A p b' = if k / 8 = b' then 1 else 0 := by unfold atB; rw [if_neg h1, h1k, nI_ix (by omega)]
        have hv : vL (sFg A p) b' + atB A p b' = vL A b' := by
          rw [ha]
          by_cases v : k / 8 = b'
          · subst v; rw [if_pos rfl]; exact s3
          · rw [if_neg v, s2 b' q (fun u => v u.symm)]; rfl
        by_cases w : b' = b
        · subst w; rw [if_pos rfl, r3]; omega
        · rw [if_neg w, (r2 b' q w).1]; omega
theorem prA_ok {e t xp p s b h : Nat} {A : gM} (hA : jV e t b xp A) (hx : xp = 99 ∨ xp = p) (hp : p < 40) (hs : s < 5) (hb : b < 12) (ht : t < 2147483600) (h10 : A 10 s = Int32.ofNat b) (h6 : A 6 b = 1) (h7 : A 7 b = Int32.ofNat s) (hh : h < 4) (h2 : A 2 p = Int32.ofNat h) (h8 : cN A b < 8) :
    jV e (t + 1) 99 99 (prA A p s b) ∧
    (∀ j, j < 96 → j ≠ 8 * b + cN A b → A 1 p ≠ Int32.ofNat j → vd (prA A p s b) j = vd A j) ∧
    (∀ j, j < 96 → A 1 p = Int32.ofNat j → vd (prA A p s b) j = 0 ∧ A 0 j = Int32.ofNat p) ∧
    A 0 (8 * b + cN A b) = -1 ∧
    (∀ b', b' < 12 → b' ≠ b → cN (prA A p s b) b' = cN A b') ∧ cN (prA A p s b) b = cN A b + 1 ∧
    sS 12 (cN (prA A p s b)) = sS 12 (cN A) + 1 ∧
    (∀ b', b' < 12 → vL (prA A p s b) b' + atB A p b' = vL A b' + (if b' = b then 1 else 0)) ∧ frN (prA A p s b) = frN A := by
  obtain ⟨r1, r2, r3, r4, r5, r6, r7, r8⟩ := sPl_ok hA hx hp hb h6 hh h2 h8
  generalize hq : 8 * b + cN A b = q at *
  have s1 : jV e t b 99 (sIn (sPl A p q) 11 s (A 11 s + 1)) := jV_c (A := sPl A p q) rfl rfl rfl rfl rfl rfl rfl rfl rfl (by obtain ⟨_, _, _, _, _, _, _, _, _, z⟩ := r1; exact z) r1
  have e0 : sIn (sPl A p q) 11 s (A 11 s + 1) 0 = sPl A p q 0 := rfl
  have e1 : sIn (sPl A p q) 11 s (A 11 s + 1) 1 = sPl A p q 1 := rfl
  by_cases h77 : cN A b = 7
  · have hd : prA A p s b = sCl (sIn (sPl A p q) 11 s (A 11 s + 1)) b s := by unfold prA; rw [if_pos h77, hq]
    rw [hd]
    have c0 : sCl (sIn (sPl A p q) 11 s (A 11 s + 1)) b s 0 = sPl A p q 0 := rfl
    have c1 : sCl (sIn (sPl A p q) 11 s (A 11 s + 1)) b s 1 = sPl A p q 1 := rfl
    obtain ⟨t1, t2⟩ := jV_sCl s1 hb hs ht h6 h7 h10 (by rw [cN_c e0, r6, h77])
    rw [vd_c c0 c1, cN_c c0, vL_c c0 c1, t2]
    exact ⟨t1, r2, r3, r4, r5, r6, r7, r8, rfl⟩
  · have hd : prA A p s b = sIn (sPl A p q) 11 s (A 11 s + 1) := by unfold prA; rw [if_neg h77, hq]
    rw [hd, vd_c e0 e1, cN_c e0, vL_c e0 e1]
    refine ⟨?_, r2, r3, r4, r5, r6, r7, r8, rfl⟩
    have s2 := jV_up s1 (Nat.le_refl e) (show t ≤ t + 1 by omega)
    obtain ⟨ia, ib, ih, ic, z⟩ := s2
    exact ⟨ia, ib, ih, jC_fin ic (fun _ _ => by rw [cN_c e0, r6]; omega), z⟩
/-- what prA leaves and what it lays -/
theorem prA_f {A : gM} {p s b : Nat} : prA A p s b 2 = A 2 ∧ prA A p s b 3 = A 3 ∧ prA A p s b 4 = A 4 ∧ prA A p s b 5 = A 5 ∧ prA A p s b 7 = A 7 ∧ prA A p s b 8 = A 8 ∧ prA A p s b 12 = A 12 ∧ prA A p s b 0 = upd (A 0) (8 * b + cN A b) (Int32.ofNat p) ∧ prA A p s b 1 = upd (A 1) p (Int32.ofNat (8 * b + cN A b)) ∧ prA A p s b 11 = upd (A 11) s (A 11 s + 1) ∧ prA A p s b 6 = (if cN A b = 7 then upd (A 6) b 2 else A 6) ∧ prA A p s b 9 = (if cN A b = 7 then upd (A 9) b (A 13 5) else A 9) ∧ prA A p s b 10 = (if cN A b = 7 then upd (A 10) s (-1) else A 10) ∧ prA A p s b 13 = (if cN A b = 7 then upd (A 13) 5 (A 13 5 + 1) else A 13) := by
  unfold prA
  by_cases h : cN A b = 7
  · simp only [if_pos h]; exact ⟨rfl, rfl, rfl, rfl, rfl, rfl, rfl, rfl, rfl, rfl, rfl, rfl, rfl, rfl⟩
  · simp only [if_neg h]; exact ⟨rfl, rfl, rfl, rfl, rfl, rfl, rfl, rfl, rfl, rfl, rfl, rfl, rfl, rfl⟩
