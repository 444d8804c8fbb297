/-! all pages written on trial, by the row alone -/
def hv (r : Nat → Int32) (p : Nat) : Int32 := if r (145 + 5 * p) = -1 then 0 else r (145 + 5 * p)
noncomputable def rws (r : Nat → Int32) (p : Nat) : Nat → Int32 := cl ((f_r_writes (m0 r) (Int32.ofNat p) (hv r p)).2 0)
noncomputable def rwr (r : Nat → Int32) : Nat → Nat → Int32
  | 0 => r
  | j + 1 => rws (rwr r j) (j % 40)
theorem rw_step {e t p : Nat} {m : gM} {r : Nat → Int32} (h : jQ e t (g_sel [20, 21, 22, 23, 24, 25, 26, 27, 28, 29, 30, 31, 32, 33, 34, 35] m) (vA r)) (hp : p < 40) (he : e + 97 < 100000000) (ht : t + 776 < 800000000) :
    okS m p ∧ jQ (e + 97) (t + 776) (g_sel [20, 21, 22, 23, 24, 25, 26, 27, 28, 29, 30, 31, 32, 33, 34, 35] (stS m p)) (vA (rws r p)) ∧ ∀ y, ¬ (20 ≤ y ∧ y < 36) → stS m p y = m y := by
  obtain ⟨x1, x2⟩ := isWritten_S h.1 hp
  have hH := h.2.1.2.2.1 p hp
  have hv2 : vA r 2 p = r (145 + 5 * p) := vA_2 r hp
  by_cases hz : vA r 1 p = -1
  · have h2 : r (145 + 5 * p) = -1 := by rw [← hv2]; exact hH.2 (by omega) hz
    rw [if_pos hz] at x1
    have e0 : hv r p = Int32.ofNat 0 := if_pos h2
    obtain ⟨k1, k2, x', k3, k4, -⟩ := writes_RS (mr := m0 r) (h := 0) (aR_m0 r) h hp (by omega) he ht
    have k5 : jQ (e + 97) (t + 776) (f_s_writePage (g_sel [20, 21, 22, 23, 24, 25, 26, 27, 28, 29, 30, 31, 32, 33, 34, 35] m) (Int32.ofNat p) (Int32.ofNat 0)) (vA (rws r p)) := by
      unfold rws; rw [vA_cl, e0]; exact k4
    unfold okS stS
    rw [if_pos x1, if_pos x1]
    exact ⟨⟨x2, k2⟩, selmrg20 k5, mrg20_out _ _⟩
  · rw [if_neg hz] at x1
    have x3 : ¬ (f_s_isWritten (g_sel [20, 21, 22, 23, 24, 25, 26, 27, 28, 29, 30, 31, 32, 33, 34, 35] m) (Int32.ofNat p) = 0) := by rw [x1]; decide
    obtain ⟨hd, hhd, ehd⟩ := hH.1 hz
    have h2 : ¬ (r (145 + 5 * p) = -1) := by rw [← hv2, ehd]; exact nI_ne1 (by omega)
    have e0 : hv r p = Int32.ofNat hd := by unfold hv; rw [if_neg h2, ← hv2, ehd]
    have hm : m 22 p = Int32.ofNat hd := by
      have := (h.1.1 p hp).2.1 (by rw [ehd]; exact nI_ne1 (by omega))
      rw [ehd] at this
      exact this
    obtain ⟨k1, k2, x', k3, k4, -⟩ := writes_RS (mr := m0 r) (h := hd) (aR_m0 r) h hp hhd he ht
    have k5 : jQ (e + 97) (t + 776) (f_s_writePage (g_sel [20, 21, 22, 23, 24, 25, 26, 27, 28, 29, 30, 31, 32, 33, 34, 35] m) (Int32.ofNat p) (Int32.ofNat hd)) (vA (rws r p)) := by
      unfold rws; rw [vA_cl, e0]; exact k4
    unfold okS stS
    rw [if_neg x3, if_neg x3, hm]
    exact ⟨⟨x2, k2⟩, selmrg20 k5, mrg20_out _ _⟩
theorem rw_all {c : Nat} {m : gM} {r : Nat → Int32} (h : jQ c (8 * c) (g_sel [20, 21, 22, 23, 24, 25, 26, 27, 28, 29, 30, 31, 32, 33, 34, 35] m) (vA r)) (hc : c + 97 * 361 < 100000000) : ∀ j, j ≤ 360 → jQ (c + 97 * j) (8 * (c + 97 * j)) (g_sel [20, 21, 22, 23, 24, 25, 26, 27, 28, 29, 30, 31, 32, 33, 34, 35] (sqS m j)) (vA (rwr r j)) ∧ ∀ y, ¬ (20 ≤ y ∧ y < 36) → sqS m j y = m y := by
  intro j
  induction j with
  | zero => intro _; exact ⟨h, fun _ _ => rfl⟩
  | succ j ih =>
    intro hj
    obtain ⟨a1, a2⟩ := ih (by omega)
    obtain ⟨-, b2, b3⟩ := rw_step a1 (show j % 40 < 40 by omega) (by omega) (by omega)
    refine ⟨?_, fun y hy => (b3 y hy).trans (a2 y hy)⟩
    rw [show c + 97 * (j + 1) = c + 97 * j + 97 by omega, show 8 * (c + 97 * j + 97) = 8 * (c + 97 * j) + 776 by omega]
    exact b2
theorem lt3I {u : Nat} (hu : u < 3) : Int32.ofNat u = 0 ∨ Int32.ofNat u = 1 ∨ Int32.ofNat u = 2 := by
  match u, hu with
  | 0, _ => exact Or.inl rfl
  | 1, _ => exact Or.inr (Or.inl rfl)
  | 2, _ => exact Or.inr (Or.inr rfl)
  | n + 3, z => omega
theorem set20 {S : gM} {A : gM} {e t u : Nat} (h : jQ e t (g_sel [20, 21, 22, 23, 24, 25, 26, 27, 28, 29, 30, 31, 32, 33, 34, 35] S) A) (hu : u < 3) : jQ e t (g_sel [20, 21, 22, 23, 24, 25, 26, 27, 28, 29, 30, 31, 32, 33, 34, 35] (g_set S 35 (upd (S 35) 0 (Int32.ofNat u)))) (sIn A 13 0 (Int32.ofNat u)) := by
  have k1 := set_RS (i := 0) (x := Int32.ofNat u) h (Or.inl ⟨rfl, lt3I hu⟩)
  refine ⟨jR_cell (m := g_set (g_sel [20, 21, 22, 23, 24, 25, 26, 27, 28, 29, 30, 31, 32, 33, 34, 35] S) 15 (upd ((g_sel [20, 21, 22, 23, 24, 25, 26, 27, 28, 29, 30, 31, 32, 33, 34, 35] S) 15) 0 (Int32.ofNat u))) (fun k z1 z2 => ?_) rfl rfl k1.1, k1.2⟩
  match k, z1, z2 with
  | 1, _, _ => rfl
  | 2, _, _ => rfl
  | 3, _, _ => rfl
  | 4, _, _ => rfl
  | 5, _, _ => rfl
  | 6, _, _ => rfl
  | 7, _, _ => rfl
  | 8, _, _ => rfl
  | 9, _, _ => rfl
  | 10, _, _ => rfl
  | 11, _, _ => rfl
  | 12, _, _ => rfl
  | 13, _, _ => rfl
  | 14, _, _ => rfl
  | 15, _, _ => rfl
  | n + 16, _, z => omega
  | 0, z, _ => omega
theorem rewrQ {c u k : Nat} {mh : gM} {r : Nat → Int32} {rs : List (Nat → Int32)} (hR : Rq c mh r rs) (hk : k ≤ 9) (hu : u < 3) (hc : c + 97 * 361 < 100000000) :
    o_h_copiesOfRewriting mh (Int32.ofNat u) (Int32.ofNat k) ∧ (f_h_copiesOfRewriting mh (Int32.ofNat u) (Int32.ofNat k)).1 = rwr (srow r 0 (Int32.ofNat u)) (40 * k) 361 - r 361 ∧ ∀ x, ¬ (20 ≤ x ∧ x < 36) → (f_h_copiesOfRewriting mh (Int32.ofNat u) (Int32.ofNat k)).2 x = mh x := by
  obtain ⟨r1, -, -, r4, -⟩ := rewr_RS (M := m0 r) (k := k) (u := u) hR.1 hk hu hc
  refine ⟨r1, ?_, r4⟩
  obtain ⟨a1, a2, a3⟩ := trial_h hR.1
  generalize eS : g_mrg [20, 21, 22, 23, 24, 25, 26, 27, 28, 29, 30, 31, 32, 33, 34, 35, 4, 5, 6, 7, 8, 9, 10, 11, 12, 13, 14, 15, 16, 17, 18, 19] mh (f_s_becomeLike (g_sel [20, 21, 22, 23, 24, 25, 26, 27, 28, 29, 30, 31, 32, 33, 34, 35, 4, 5, 6, 7, 8, 9, 10, 11, 12, 13, 14, 15, 16, 17, 18, 19] mh)) = S at *
  have a4 := selQ20 a2
  have i0 : (0 : Int32).toNatClampNeg = 0 := by decide
  have k2 := set20 a4 hu
  rw [← vA_srow r (show 0 < 2 by omega)] at k2
  generalize eS' : g_set S 35 (upd (S 35) 0 (Int32.ofNat u)) = S' at *
  have hS' : ∀ x, ¬ (20 ≤ x ∧ x < 36) → S' x = mh x := fun x hx => by rw [← eS', g_set_n (by omega), a3 x hx]
  have hall := rw_all k2 hc
  have hokS : ∀ j, j < 360 → okS (sqS S' j) (j % 40) := fun j hj => (rw_step (hall j (by omega)).1 (show j % 40 < 40 by omega) (by omega) (by omega)).1
  obtain ⟨l1, l2⟩ := in23 (x1 := Int32.ofNat u) hokS hk
  obtain ⟨j2, j3⟩ := hall (40 * k) (by omega)
  unfold f_h_copiesOfRewriting
  simp only [g_let_def, eS, i0, eS', l2]
  have hnow : jQ c (8 * c) (g_sel [4, 5, 6, 7, 8, 9, 10, 11, 12, 13, 14, 15, 16, 17, 18, 19] (sqS S' (40 * k))) (vA r) := by
    have e : ∀ j, j < 16 → sqS S' (40 * k) (4 + j) = mh (4 + j) := fun j hj => by rw [j3 _ (by omega), hS' _ (by omega)]
    exact selQ (hQ_cell (b := 4) (m := mh) (fun j h1 h2 => e j h2) (congrFun (e 0 (by omega)) 15) (congrFun (e 0 (by omega)) 16) (fun _ _ => rfl) hR.1)
  rw [copies_of hnow, copies_of j2, vA_13 _ (by omega), vA_13 _ (by omega)]
theorem Rq_trial {c : Nat} {mh mh' : gM} {r : Nat → Int32} {rs : List (Nat → Int32)} (hR : Rq c mh r rs) (h : ∀ x, ¬ (20 ≤ x ∧ x < 36) → mh' x = mh x) : Rq c mh' r rs := Rq_same hR (fun x x1 x2 => h x (by omega)) (fun x x1 x2 => h x (by omega)) (by rw [h 0 (by omega)])
theorem ifRewrittenQ {c k : Nat} {u : Nat} {mh : gM} {r : Nat → Int32} {rs : List (Nat → Int32)} (hR : Rq c mh r rs) (hk1 : 1 ≤ k) (hk : k ≤ 9) (hu : u < 3) (hr : r 358 = Int32.ofNat u) (hc : c + 97 * 361 < 100000000) :
    o_h_ifRewritten mh (Int32.ofNat k) ∧ (f_h_ifRewritten mh (Int32.ofNat k)).1 = rwr (srow r 0 (Int32.ofNat u)) (40 * k) 361 - r 361 ∧ ∀ x, ¬ (20 ≤ x ∧ x < 36) → (f_h_ifRewritten mh (Int32.ofNat k)).2 x = mh x := by
  have c1 : ¬ (Int32.ofNat k < (1 : Int32)) := fun w => by have := (ltI (b := 1) (by omega) (by omega)).mp w; omega
  have c2 : Int32.ofNat k ≤ (9 : Int32) := (leI (b := 9) (by omega) (by omega)).mpr hk
  obtain ⟨a1, a2, a3⟩ := rewrQ (k := k) hR hk hu hc
  have e : mh 19 (0 : Int32).toNatClampNeg = Int32.ofNat u := by
    have h2 : mh 19 (0 : Int32).toNatClampNeg = vA r 13 0 := (selQ hR.1).1.2.2.2.2.2.1
    rw [h2, vA_13 r (by omega)]; exact hr
  unfold o_h_ifRewritten f_h_ifRewritten
  simp only [g_let_def, if_neg c1, if_pos c2, e]
  exact ⟨⟨a1, trivial⟩, a2, a3⟩
/-- where no rule copies a page, the lowest is the best -/
theorem bestRuleQ0 {c k : Nat} {mh : gM} {r : Nat → Int32} {rs : List (Nat → Int32)} (hR : Rq c mh r rs) (hk1 : 1 ≤ k) (hk : k ≤ 9) (hz : ∀ u, u < 3 → rwr (srow r 0 (Int32.ofNat u)) (40 * k) 361 - r 361 = 0) (hc : c + 97 * 361 < 100000000) :
    o_h_bestRule mh (Int32.ofNat k) ∧ (f_h_bestRule mh (Int32.ofNat k)).1 = 0 ∧ ∀ x, ¬ (20 ≤ x ∧ x < 36) → (f_h_bestRule mh (Int32.ofNat k)).2 x = mh x := by
  have c1 : ¬ (Int32.ofNat k < (1 : Int32)) := fun w => by have := (ltI (b := 1) (by omega) (by omega)).mp w; omega
  have c2 : Int32.ofNat k ≤ (9 : Int32) := (leI (b := 9) (by omega) (by omega)).mpr hk
  obtain ⟨a1, -, -, a4, -⟩ := best_RS (M := m0 r) hR.1 hk hk1 hc
  refine ⟨a1, ?_, a4⟩
  have hu : ∀ {m : gM} (u : Nat), u < 3 → Rq c m r rs → (f_h_copiesOfRewriting m (Int32.ofNat u) (Int32.ofNat k)).1 = 0 ∧ Rq c (f_h_copiesOfRewriting m (Int32.ofNat u) (Int32.ofNat k)).2 r rs := by
    intro m u hu hm
    obtain ⟨-, b2, b3⟩ := rewrQ (k := k) hm hk hu hc
    exact ⟨b2.trans (hz u hu), Rq_trial hm b3⟩
  obtain ⟨p1, p2⟩ := hu (m := mh) 0 (by omega) hR
  have e0 : Int32.ofNat 0 = (0 : Int32) := rfl
  rw [e0] at p1 p2
  have hL := run_count (f := L_h_bestRule_33 (Int32.ofNat k)) (K := fun _ => True) (N := 2) (fuel := 400) (fun n (z : Int32 × Int32 × Int32 × gM) => z.1 = 0 ∧ z.2.1 = 0 ∧ z.2.2.1 = Int32.ofNat (n + 1) ∧ Rq c z.2.2.2 r rs) (fun z => z.1 = 0)
    (z := ((0 : Int32), (f_h_copiesOfRewriting mh (0 : Int32) (Int32.ofNat k)).1, (1 : Int32), (f_h_copiesOfRewriting mh (0 : Int32) (Int32.ofNat k)).2)) (by omega) ⟨rfl, p1, rfl, p2⟩ (fun n z hn hI => ?_) (fun z hI => ?_)
  · unfold f_h_bestRule
    simp only [g_let_def, if_neg c1, if_pos c2]
    exact hL.2
  · obtain ⟨z1, z2, z3, zm⟩ := z
    obtain ⟨i1, i2, i3, i4⟩ := hI
    dsimp only at i1 i2 i3 i4
    subst i1
    subst i2
    subst i3
    have hlt : ¬ ((3 : Int32) ≤ Int32.ofNat (n + 1)) := fun w => by have := (leI (a := 3) (by omega) (by omega)).mp w; omega
    obtain ⟨q1, q2⟩ := hu (n + 1) (by omega) i4
    have hle : (0 : Int32) ≤ 0 := by decide
    unfold L_h_bestRule_33
    simp only [g_let_def, if_neg hlt, q1, if_pos hle, e1r]
    exact ⟨trivial, trivial, trivial, trivial, trivial, q2⟩
  · obtain ⟨z1, z2, z3, zm⟩ := z
    obtain ⟨i1, i2, i3, i4⟩ := hI
    dsimp only at i1 i2 i3 i4
    subst i1
    subst i2
    subst i3
    have hle : (3 : Int32) ≤ Int32.ofNat (2 + 1) := by decide
    unfold L_h_bestRule_33
    simp only [if_pos hle]
    exact ⟨trivial, trivial, trivial⟩
