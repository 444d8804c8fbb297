/-! writeAll -/
theorem part_RS {c N x f l h k : Nat} {A m zm : gM} {x1 : Int32} (hw : wS c N x A m (vA (zm 1))) (hfl : f ≤ l) (hl : l < 40) (hh : h < 4) (hc : c + 97 * (N + 40) < 100000000) (hk : k < 31) (t1 : zm 5 (3 * k + 1) = Int32.ofNat l) (t2 : zm 5 (3 * k + 2) = Int32.ofNat h) :
    rOk (L_r_writeAll_55 x1 (Int32.ofNat k)) (K_r_writeAll_55 x1 (Int32.ofNat k)) 400 (Int32.ofNat f, zm) ∧ o_s_writePages m (Int32.ofNat f) (Int32.ofNat l) (Int32.ofNat h) ∧ (∃ x', wS c (N + (l - f + 1)) x' A (f_s_writePages m (Int32.ofNat f) (Int32.ofNat l) (Int32.ofNat h)).2 (vA ((run (L_r_writeAll_55 x1 (Int32.ofNat k)) 400 (Int32.ofNat f, zm)).2 1))) ∧ (∀ c, c ≠ 1 → (run (L_r_writeAll_55 x1 (Int32.ofNat k)) 400 (Int32.ofNat f, zm)).2 c = zm c) := by
  have e1 : (3 : Int32) * Int32.ofNat k + (1 : Int32) = Int32.ofNat (3 * k + 1) := by rw [show (3 : Int32) = Int32.ofNat 3 from rfl, nI_times]; exact nI_plus2 _ 1
  have e2 : (3 : Int32) * Int32.ofNat k + (2 : Int32) = Int32.ofNat (3 * k + 2) := by rw [show (3 : Int32) = Int32.ofNat 3 from rfl, nI_times]; exact nI_plus2 _ 2
  have v1 := vp_in_nI (show 3 * k + 1 < 96 by omega) (show 96 < 2 ^ 31 by omega)
  have v2 := vp_in_nI (show 3 * k + 2 < 96 by omega) (show 96 < 2 ^ 31 by omega)
  have hL := run2 (f := L_r_writeAll_55 x1 (Int32.ofNat k)) (g := L_s_writePages_9 (Int32.ofNat f) (Int32.ofNat l) (Int32.ofNat h) (f_s_copies m)) (K := K_r_writeAll_55 x1 (Int32.ofNat k)) (K' := K_s_writePages_9 (Int32.ofNat f) (Int32.ofNat l) (Int32.ofNat h) (f_s_copies m)) (n := l - f + 1) (fuel := 400) (fuel' := 400) (z := (Int32.ofNat f, zm)) (w := (Int32.ofNat f, m))
    (fun r (z : Int32 × gM) (w : Int32 × gM) => ∃ i x, r + i = l - f + 1 ∧ z.1 = Int32.ofNat (f + i) ∧ w.1 = Int32.ofNat (f + i) ∧ wS c (N + i) x A w.2 (vA (z.2 1)) ∧ ∀ c, c ≠ 1 → z.2 c = zm c)
    (fun (z : Int32 × gM) (w : Int32 × gM) => (∃ x, wS c (N + (l - f + 1)) x A w.2 (vA (z.2 1))) ∧ ∀ c, c ≠ 1 → z.2 c = zm c)
    (by omega) (by omega) ⟨0, x, by omega, rfl, rfl, hw, fun _ _ => rfl⟩ (fun r z w hI => ?_)
  · obtain ⟨a1, a2, a3, a4⟩ := hL
    unfold f_s_writePages o_s_writePages
    simp only [g_let_def]
    exact ⟨a1, ⟨trivial, a2, trivial, trivial⟩, a3, a4⟩
  · obtain ⟨z1, z2⟩ := z
    obtain ⟨w1, w2⟩ := w
    obtain ⟨i, x, hr, hz1, hw1, hw, hc1⟩ := hI
    dsimp only at hz1 hw1 hw hc1
    subst hz1
    subst hw1
    have q1 : z2 5 (Int32.ofNat (3 * k + 1)).toNatClampNeg = Int32.ofNat l := by rw [nI_ix (by omega), hc1 5 (by decide), t1]
    have q2 : z2 5 (Int32.ofNat (3 * k + 2)).toNatClampNeg = Int32.ofNat h := by rw [nI_ix (by omega), hc1 5 (by decide), t2]
    by_cases hi : f + i ≤ l
    · have n1 : ¬ (Int32.ofNat l < Int32.ofNat (f + i)) := nltL (by omega) (by omega) (by omega)
      obtain ⟨k1, k2, x', k3, k4, -⟩ := wS_step hw (show f + i < 40 by omega) hh (by omega)
      obtain ⟨s1, s2⟩ := wp_step (m := w2) (x1 := Int32.ofNat f) (x3 := Int32.ofNat h) (x4 := f_s_copies m) (show f + i < 40 by omega) n1
      rw [s1, s2]
      unfold L_r_writeAll_55 K_r_writeAll_55
      simp only [g_let_def, e1, e2, q1, q2, if_neg n1, e1r]
      refine ⟨⟨v1, v2, k1, trivial⟩, ⟨k2, trivial⟩, Or.inl ⟨trivial, trivial, r - 1, by omega, i + 1, x + x', by omega, rfl, rfl, k4, fun c hc => ?_⟩⟩
      rw [(g_mrg1 z2 _).1 c hc]; exact hc1 c hc
    · have n2 : Int32.ofNat l < Int32.ofNat (f + i) := ltL (by omega) (by omega) (by omega)
      have hil : i = l - f + 1 := by omega
      subst hil
      obtain ⟨s3, s4⟩ := wp_end (m := w2) (x1 := Int32.ofNat f) (x3 := Int32.ofNat h) (x4 := f_s_copies m) n2
      rw [s3, s4]
      unfold L_r_writeAll_55 K_r_writeAll_55
      simp only [e1, e2, q1, if_pos n2]
      exact ⟨⟨v1, trivial⟩, trivial, Or.inr ⟨trivial, trivial, ⟨x, hw⟩, hc1⟩⟩
/-- the reference's picture after k parts -/
noncomputable def rqk (x1 : Int32) (Z : gM) (T : Nat → Int32) : Nat → gM
  | 0 => Z
  | k + 1 => (run (L_r_writeAll_55 x1 (Int32.ofNat k)) 400 (T (3 * k), rqk x1 Z T k)).2
theorem in38 {x1 : Int32} {Z : gM} {T : Nat → Int32} {t : Nat} (ht : t ≤ 30) (h10 : ∀ k, k ≤ t → rqk x1 Z T k 0 10 = Int32.ofNat t) (h5 : ∀ k, k < t → rqk x1 Z T k 5 (3 * k) = T (3 * k)) (hok : ∀ k, k < t → rOk (L_r_writeAll_55 x1 (Int32.ofNat k)) (K_r_writeAll_55 x1 (Int32.ofNat k)) 400 (T (3 * k), rqk x1 Z T k)) :
    rOk (L_r_writeAll_38 x1) (K_r_writeAll_38 x1) 400 ((0 : Int32), Z) ∧ (run (L_r_writeAll_38 x1) 400 ((0 : Int32), Z)).2 = rqk x1 Z T t := by
  refine run_count (N := t) (fuel := 400) (fun k (z : Int32 × gM) => z = (Int32.ofNat k, rqk x1 Z T k)) (fun (z : Int32 × gM) => z.2 = rqk x1 Z T t) (by omega) rfl (fun k z hk hz => ?_) (fun z hz => ?_)
  · subst hz
    have n1 : ¬ (rqk x1 Z T k 0 10 ≤ Int32.ofNat k) := by rw [h10 k (by omega)]; exact fun w => by have := (leI (by omega) (by omega)).mp w; omega
    have e3 : (3 : Int32) * Int32.ofNat k = Int32.ofNat (3 * k) := nI_times 3 k
    have q1 : rqk x1 Z T k 5 (Int32.ofNat (3 * k)).toNatClampNeg = T (3 * k) := by rw [nI_ix (by omega), h5 k hk]
    unfold L_r_writeAll_38 K_r_writeAll_38
    simp only [g_let_def, if_neg n1, e3, q1, e1r]
    exact ⟨⟨vp_in_nI (by omega) (by omega), hok k hk, trivial⟩, trivial, rfl⟩
  · subst hz
    have n1 : rqk x1 Z T t 0 10 ≤ Int32.ofNat t := by rw [h10 t (by omega)]; exact (leI (by omega) (by omega)).mpr (by omega)
    unfold L_r_writeAll_38 K_r_writeAll_38
    simp only [if_pos n1]
    refine ⟨trivial, trivial, ?_⟩
    first | trivial | rfl
theorem drn_pre {tx : Nat → Nat} {s : Nat × Nat × Nat × Nat} {a n j : Nat} {s' : Nat × Nat × Nat × Nat} (h : drn tx s a n = some s') (hj : j < n) : ∃ b f l h' b1 f1 l1 h1, drn tx s a j = some (b, f, l, h') ∧ dst b f l h' (tx (a + j)) = some (b1, f1, l1, h1) ∧ drn tx s a (j + 1) = some (b1, f1, l1, h1) := by
  obtain ⟨k, rfl⟩ : ∃ k, n = j + (k + 1) := ⟨n - j - 1, by omega⟩
  rw [drn_add] at h
  cases h1 : drn tx s a j with
  | none => rw [h1] at h; cases h
  | some q =>
    obtain ⟨b, f, l, h'⟩ := q
    rw [h1] at h
    have h2 : (dst b f l h' (tx (a + j))).bind (fun s' => drn tx s' (a + j + 1) k) = some s' := h
    cases h3 : dst b f l h' (tx (a + j)) with
    | none => rw [h3] at h2; cases h2
    | some q2 =>
      obtain ⟨b1, f1, l1, h1'⟩ := q2
      exact ⟨b, f, l, h', b1, f1, l1, h1', rfl, h3, drn_snoc h1 h3⟩
/-- what both sides keep, part by part: N pages are written by the first k parts -/
def wK (c : Nat) (A : gM) (x1 : Int32) (Z : gM) (T : Nat → Int32) (k N : Nat) (m : gM) : Prop := (∃ x, wS c N x A (g_sel [4, 5, 6, 7, 8, 9, 10, 11, 12, 13, 14, 15, 16, 17, 18, 19] m) (vA (rqk x1 Z T k 1))) ∧ (∀ y, y ≠ 1 → rqk x1 Z T k y = Z y) ∧ N ≤ 40 * k
theorem wK_cell {c k N : Nat} {A m m' Z : gM} {x1 : Int32} {T : Nat → Int32} (h4 : ∀ y, 4 ≤ y → y < 20 → m' y = m y) (hw : wK c A x1 Z T k N m) : wK c A x1 Z T k N m' := by
  obtain ⟨⟨x, h1⟩, h2⟩ := hw
  refine ⟨⟨x, ⟨jR_cell (m := g_sel [4, 5, 6, 7, 8, 9, 10, 11, 12, 13, 14, 15, 16, 17, 18, 19] m) (fun j j1 j2 => ?_) (congrFun (h4 4 (by omega) (by omega)) 15) (congrFun (h4 4 (by omega) (by omega)) 16) h1.1.1, h1.1.2⟩, h1.2⟩, h2⟩
  match j, j1, j2 with
  | 1, _, _ => exact h4 5 (by omega) (by omega)
  | 2, _, _ => exact h4 6 (by omega) (by omega)
  | 3, _, _ => exact h4 7 (by omega) (by omega)
  | 4, _, _ => exact h4 8 (by omega) (by omega)
  | 5, _, _ => exact h4 9 (by omega) (by omega)
  | 6, _, _ => exact h4 10 (by omega) (by omega)
  | 7, _, _ => exact h4 11 (by omega) (by omega)
  | 8, _, _ => exact h4 12 (by omega) (by omega)
  | 9, _, _ => exact h4 13 (by omega) (by omega)
  | 10, _, _ => exact h4 14 (by omega) (by omega)
  | 11, _, _ => exact h4 15 (by omega) (by omega)
  | 12, _, _ => exact h4 16 (by omega) (by omega)
  | 13, _, _ => exact h4 17 (by omega) (by omega)
  | 14, _, _ => exact h4 18 (by omega) (by omega)
  | 15, _, _ => exact h4 19 (by omega) (by omega)
  | n + 16, _, z => omega
  | 0, z, _ => omega
theorem wK_step {c k N f l h : Nat} {A m Z : gM} {x1 : Int32} (hw : wK c A x1 Z (Z 5) k N m) (hk : k < 30) (hfl : f ≤ l) (hl : l < 40) (hh : h < 4) (hc : c + 120280 < 100000000) (t0 : Z 5 (3 * k) = Int32.ofNat f) (t1 : Z 5 (3 * k + 1) = Int32.ofNat l) (t2 : Z 5 (3 * k + 2) = Int32.ofNat h) :
    o_s_writePages (g_sel [4, 5, 6, 7, 8, 9, 10, 11, 12, 13, 14, 15, 16, 17, 18, 19] m) (Int32.ofNat f) (Int32.ofNat l) (Int32.ofNat h) ∧ wK c A x1 Z (Z 5) (k + 1) (N + (l - f + 1)) (g_mrg [4, 5, 6, 7, 8, 9, 10, 11, 12, 13, 14, 15, 16, 17, 18, 19] m (f_s_writePages (g_sel [4, 5, 6, 7, 8, 9, 10, 11, 12, 13, 14, 15, 16, 17, 18, 19] m) (Int32.ofNat f) (Int32.ofNat l) (Int32.ofNat h)).2) ∧ rOk (L_r_writeAll_55 x1 (Int32.ofNat k)) (K_r_writeAll_55 x1 (Int32.ofNat k)) 400 (Z 5 (3 * k), rqk x1 Z (Z 5) k) := by
  obtain ⟨⟨x, h1⟩, h2, h3⟩ := hw
  have hN4 : N + 40 ≤ 1240 := by clear h1 h2 t0 t1 t2 hc; omega
  have hN : c + 97 * (N + 40) < 100000000 := Nat.lt_of_le_of_lt (Nat.add_le_add_left (Nat.mul_le_mul_left 97 hN4) c) hc
  have hk31 : k < 31 := by omega
  have hq5 : rqk x1 Z (Z 5) k 5 = Z 5 := h2 5 (by decide)
  have u1 : rqk x1 Z (Z 5) k 5 (3 * k + 1) = Int32.ofNat l := by rw [hq5]; exact t1
  have u2 : rqk x1 Z (Z 5) k 5 (3 * k + 2) = Int32.ofNat h := by rw [hq5]; exact t2
  obtain ⟨p1, p2, ⟨x', p3⟩, p4⟩ := part_RS (zm := rqk x1 Z (Z 5) k) (x1 := x1) (k := k) h1 hfl hl hh hN hk31 u1 u2
  have e : rqk x1 Z (Z 5) (k + 1) = (run (L_r_writeAll_55 x1 (Int32.ofNat k)) 400 (Int32.ofNat f, rqk x1 Z (Z 5) k)).2 := by
    show (run (L_r_writeAll_55 x1 (Int32.ofNat k)) 400 (Z 5 (3 * k), rqk x1 Z (Z 5) k)).2 = _
    rw [t0]
  refine ⟨p2, ⟨⟨x', ?_⟩, fun y hy => by rw [e, p4 y hy, h2 y hy], by omega⟩, by rw [t0]; exact p1⟩
  rw [e]
  refine ⟨⟨jR_cell (m := (f_s_writePages (g_sel [4, 5, 6, 7, 8, 9, 10, 11, 12, 13, 14, 15, 16, 17, 18, 19] m) (Int32.ofNat f) (Int32.ofNat l) (Int32.ofNat h)).2) (fun j j1 j2 => ?_) rfl rfl p3.1.1, p3.1.2⟩, p3.2⟩
  match j, j1, j2 with
  | 1, _, _ => rfl
  | 2, _, _ => rfl
  | 3, _, _ => rfl
  | 4, _, _ => rfl
  | 5, _, _ => rfl
  | 6, _, _ => rfl
  | 7, _, _ => rfl
  | 8, _, _ => rfl
  | 9, _, _ => rfl
  | 10, _, _ => rfl
  | 11, _, _ => rfl
  | 12, _, _ => rfl
  | 13, _, _ => rfl
  | 14, _, _ => rfl
  | 15, _, _ => rfl
  | n + 16, _, z => omega
  | 0, z, _ => omega
theorem st_le {tx : Nat → Nat} {T : Nat → Int32} {t : Nat} {st : Nat → Nat} (h : pts tx T t st) : ∀ k, k ≤ t → st k + 2 * (t - k) ≤ st t := by
  intro k hk
  obtain ⟨d, hd⟩ : ∃ d, d = t - k := ⟨t - k, rfl⟩
  induction d generalizing k with
  | zero => have : k = t := by omega
            subst this; omega
  | succ d ih =>
    have := ih (k + 1) (by omega) (by omega)
    have := (h.2.1 k (by omega)).1
    omega
theorem some4 {a b c d a' b' c' d' : Nat} (h : some (a, b, c, d) = some (a', b', c', d')) : a = a' ∧ b = b' ∧ c = c' ∧ d = d' := by
  cases h; exact ⟨rfl, rfl, rfl, rfl⟩
/-- the class's loop over the buffer -/
theorem in46 {L t c : Nat} {tx : Nat → Nat} {st : Nat → Nat} {A S Z : gM} {x1 : Int32} (htx : txt L tx (Z 5) t st) (hb : bfR L tx S) (hr : rdR (g_sel [3] S) 0 0 0 0) (hw : wK c A x1 Z (Z 5) 0 0 S) (hc : c + 120280 < 100000000) :
    rOk L_h_writeAll_46 K_h_writeAll_46 400 ((0 : Int32), (0 : Int32), S) ∧ (∃ N, (run L_h_writeAll_46 400 ((0 : Int32), (0 : Int32), S)).1 = Int32.ofNat N ∧ wK c A x1 Z (Z 5) t N (run L_h_writeAll_46 400 ((0 : Int32), (0 : Int32), S)).2.2 ∧ (∀ y, y ≠ 3 → ¬ (4 ≤ y ∧ y < 20) → (run L_h_writeAll_46 400 ((0 : Int32), (0 : Int32), S)).2.2 y = S y)) ∧ ∀ k, k < t → rOk (L_r_writeAll_55 x1 (Int32.ofNat k)) (K_r_writeAll_55 x1 (Int32.ofNat k)) 400 (Z 5 (3 * k), rqk x1 Z (Z 5) k) ∧ ∀ y, y ≠ 1 → rqk x1 Z (Z 5) k y = Z y := by
  obtain ⟨ht1, ht30, hst, hp⟩ := htx
  obtain ⟨b1, b2, b3⟩ := hb
  have hle := st_le hp
  have hp0 := hp.1
  have n10 : ¬ ((1 : Int32) = 0) := by decide
  -- a part's numbers
  have hpart : ∀ k, k < t → ∃ b f l h, drn tx (0, 0, 0, 0) (st k) (st (k + 1) - 1 - st k) = some (b, f, l, h) ∧ pW b f l ∧ f ≤ l ∧ l < 40 ∧ h < 4 ∧ Z 5 (3 * k) = Int32.ofNat f ∧ Z 5 (3 * k + 1) = Int32.ofNat l ∧ Z 5 (3 * k + 2) = Int32.ofNat h ∧ (∀ i, st k ≤ i → i < st (k + 1) - 1 → tx i ≠ 59) := by
    intro k hk
    obtain ⟨-, ⟨b, f, l, h, q1, q2, q3, q4, q5, q6, q7⟩, -⟩ := hp.2.1 k hk
    obtain ⟨v1, v2, v3, v4, v5, v6, v7⟩ := drn_vS _ _ vS_0 q1
    refine ⟨b, f, l, h, q1, q3, ?_, by omega, by omega, q4, q5, q6, q7⟩
    unfold pW at q3; omega
  have hL := run_wf (f := L_h_writeAll_46) (K := K_h_writeAll_46) (fuel := 400) (z := ((0 : Int32), (0 : Int32), S))
    (fun (z : Int32 × Int32 × gM) => ∃ i k N, z.1 = Int32.ofNat N ∧ z.2.1 = Int32.ofNat i ∧ i ≤ L ∧ k ≤ t ∧ wK c A x1 Z (Z 5) k N z.2.2 ∧ (∀ y, y ≠ 3 → ¬ (4 ≤ y ∧ y < 20) → z.2.2 y = S y) ∧ (∀ k', k' < k → rOk (L_r_writeAll_55 x1 (Int32.ofNat k')) (K_r_writeAll_55 x1 (Int32.ofNat k')) 400 (Z 5 (3 * k'), rqk x1 Z (Z 5) k') ∧ ∀ y, y ≠ 1 → rqk x1 Z (Z 5) k' y = Z y) ∧
      ((i = L ∧ k = t) ∨ (i < L ∧ k < t ∧ st k ≤ i ∧ i ≤ st (k + 1) - 1 ∧ ∃ b f l h, drn tx (0, 0, 0, 0) (st k) (i - st k) = some (b, f, l, h) ∧ rdR (g_sel [3] z.2.2) b f l h)))
    (fun (z : Int32 × Int32 × gM) => L - z.2.1.toNatClampNeg)
    (fun (z : Int32 × Int32 × gM) => (∃ N, z.1 = Int32.ofNat N ∧ wK c A x1 Z (Z 5) t N z.2.2 ∧ (∀ y, y ≠ 3 → ¬ (4 ≤ y ∧ y < 20) → z.2.2 y = S y)) ∧ ∀ k, k < t → rOk (L_r_writeAll_55 x1 (Int32.ofNat k)) (K_r_writeAll_55 x1 (Int32.ofNat k)) 400 (Z 5 (3 * k), rqk x1 Z (Z 5) k) ∧ ∀ y, y ≠ 1 → rqk x1 Z (Z 5) k y = Z y)
    ?_ (by show L - (0 : Int32).toNatClampNeg < 400; omega) (fun z hI => ?_)
  · exact ⟨hL.1, hL.2.1, hL.2.2⟩
  · have h0 := hle 0 (by omega)
    have h01 := (hp.2.1 0 (by omega)).1
    exact ⟨0, 0, 0, rfl, rfl, by omega, by omega, hw, fun _ _ _ => rfl, fun k' hk' => by omega, Or.inr ⟨by omega, by omega, by omega, by omega, 0, 0, 0, 0, by rw [hp0]; rfl, hr⟩⟩
  · obtain ⟨z1, z2, zm⟩ := z
    obtain ⟨i, k, N, hz1, hz2, hiL, hkt, hwk, hs, hok, hcase⟩ := hI
    dsimp only at hz1 hz2 hwk hs hcase
    subst hz1
    subst hz2
    have z05 : zm 0 5 = Int32.ofNat L := by rw [hs 0 (by decide) (by omega), b1]
    rcases hcase with ⟨w1, w2⟩ | ⟨w1, w2, w3, w4, b, f, l, h, w5, w6⟩
    · subst w1
      subst w2
      have le : zm 0 5 ≤ Int32.ofNat i := by rw [z05]; exact (leI (by omega) (by omega)).mpr (by omega)
      unfold L_h_writeAll_46 K_h_writeAll_46
      simp only [if_pos le]
      exact ⟨trivial, fun q => (by cases q), fun _ => ⟨⟨N, rfl, hwk, hs⟩, hok⟩⟩
    · have nle : ¬ (zm 0 5 ≤ Int32.ofNat i) := by rw [z05]; exact fun q => by have := (leI (by omega) (by omega)).mp q; omega
      obtain ⟨c1, c2, c3⟩ := b3 i w1
      have z2i : zm 2 (Int32.ofNat i).toNatClampNeg = Int32.ofNat (tx i) := by rw [nI_ix (by omega), hs 2 (by decide) (by omega), c1]
      have vi := vp_in_nI (show i < 60 by omega) (show 60 < 2 ^ 31 by omega)
      have hvs := drn_vS _ _ vS_0 w5
      obtain ⟨a1, a2⟩ := accepts_d w6 hvs (show tx i < 128 by omega)
      obtain ⟨bzz, fzz, lzz, hzz, q1, q2, q3, q4, q5, q6, q7, q8, q9⟩ := hpart k w2
      have hk1 := (hp.2.1 k w2).1
      have hkle := hle (k + 1) (by omega)
      have ii : (Int32.ofNat i).toNatClampNeg = i := nI_ix (by omega)
      have ii1 : (Int32.ofNat (i + 1)).toNatClampNeg = i + 1 := nI_ix (by omega)
      have hst0 : st k + (i - st k) = i := by omega
      by_cases he : i < st (k + 1) - 1
      · -- within the part
        obtain ⟨b0, f0, l0, h0, bqq, fqq, lqq, hqq, r1, r2, r3⟩ := drn_pre (j := i - st k) q1 (by omega)
        rw [w5] at r1
        obtain ⟨e1, e2, e3, e4⟩ := some4 r1
        rw [hst0, ← e1, ← e2, ← e3, ← e4] at r2
        rcases a1 with ⟨y1, -⟩ | ⟨b3', f3, l3, h3, y1, y2, y3⟩
        · rw [r2] at y1; cases y1
        · rw [r2] at y1
          obtain ⟨e5, e6, e7, e8⟩ := some4 y1
          rw [← e5, ← e6, ← e7, ← e8] at y3
          generalize hac : f_d_accepts (g_sel [3] zm) (Int32.ofNat (tx i)) = Ac at *
          have hy5 : ∀ y, y ≠ 3 → g_mrg [3] zm Ac.2 y = zm y := (g_mrg3 zm Ac.2).1
          have hy05 : g_mrg [3] zm Ac.2 0 5 = Int32.ofNat L := by rw [hy5 0 (by decide), z05]
          have hwk' : wK c A x1 Z (Z 5) k N (g_mrg [3] zm Ac.2) := wK_cell (fun y y1 y2 => hy5 y (by omega)) hwk
          by_cases hend : i + 1 = L
          · have hk1t : k + 1 = t := by
              rcases Nat.lt_or_ge (k + 1) t with q | q
              · have := hle (k + 1) (by omega); omega
              · omega
            have hee : i + 1 = st (k + 1) - 1 := by rw [hk1t, hst]; omega
            have hq1 : drn tx (0, 0, 0, 0) (st k) (i - st k + 1) = some (bzz, fzz, lzz, hzz) := by rw [show i - st k + 1 = st (k + 1) - 1 - st k by omega]; exact q1
            rw [r3] at hq1
            obtain ⟨s1, s2, s3, s4⟩ := some4 hq1
            rw [s1, s2, s3, s4] at y3
            have g1 : g_mrg [3] zm Ac.2 3 1 = Int32.ofNat fzz := y3.2.1
            have g2 : g_mrg [3] zm Ac.2 3 2 = Int32.ofNat lzz := y3.2.2.1
            have g3 : g_mrg [3] zm Ac.2 3 3 = Int32.ofNat hzz := y3.2.2.2
            obtain ⟨k1, k2, k3⟩ := wK_step (f := fzz) (l := lzz) (h := hzz) hwk' (by omega) q3 q4 q5 hc q6 q7 q8
            have eL : Int32.ofNat (i + 1) = g_mrg [3] zm Ac.2 0 5 := by rw [hy05, hend]
            have o3 : ∀ R : gM, (g_mrg [4, 5, 6, 7, 8, 9, 10, 11, 12, 13, 14, 15, 16, 17, 18, 19] (g_mrg [3] zm Ac.2) R) 3 = g_mrg [3] zm Ac.2 3 := fun R => mrg_out _ _ 3 (by omega)
            have esum : Int32.ofNat lzz - Int32.ofNat fzz + (1 : Int32) = Int32.ofNat (lzz - fzz + 1) := by
              rw [show Int32.ofNat lzz = Int32.ofNat ((lzz - fzz) + fzz) by rw [show (lzz - fzz) + fzz = lzz by omega], subNN, e1r]
            unfold L_h_writeAll_46 K_h_writeAll_46
            simp only [g_let_def, if_neg nle, z2i, hac, e1r, if_pos eL, g1, g2, g3, o3, esum, nI_plus2]
            refine ⟨⟨vi, a2, k1, trivial⟩, fun _ => ⟨⟨i + 1, k + 1, N + (lzz - fzz + 1), rfl, rfl, by omega, by omega, k2, fun y hy1 hy2 => ?_, fun k' hk' => ?_, Or.inl ⟨hend, hk1t⟩⟩, ?_⟩, fun q => (by cases q)⟩
            · rw [mrg_out _ _ y hy2, hy5 y hy1, hs y hy1 hy2]
            · by_cases z : k' = k
              · subst z; exact ⟨k3, hwk.2.1⟩
              · exact hok k' (by omega)
            · rw [ii, ii1]; omega
          · have neL' : ¬ (Int32.ofNat (i + 1) = g_mrg [3] zm Ac.2 0 5) := by rw [hy05]; exact neL (by omega) (by omega) hend
            have n59 : ¬ (g_mrg [3] zm Ac.2 2 (Int32.ofNat i).toNatClampNeg = (59 : Int32)) := by rw [hy5 2 (by decide), z2i]; exact neL (b := 59) (by omega) (by omega) (q9 i w3 he)
            unfold L_h_writeAll_46 K_h_writeAll_46
            simp only [g_let_def, if_neg nle, z2i, hac, e1r, if_neg neL', if_neg n59]
            refine ⟨⟨vi, a2, vi, trivial⟩, fun _ => ⟨⟨i + 1, k, N, rfl, rfl, by omega, hkt, hwk', fun y hy1 hy2 => by rw [hy5 y hy1, hs y hy1 hy2], hok, Or.inr ⟨by omega, w2, by omega, by omega, bqq, fqq, lqq, hqq, by rw [show i + 1 - st k = i - st k + 1 by omega]; exact r3, rdR_of y3⟩⟩, ?_⟩, fun q => (by cases q)⟩
            rw [ii, ii1]; omega
      · -- the part's end: ';'
        have hie : i = st (k + 1) - 1 := by omega
        have hk1t : k + 1 < t := by
          rcases Nat.lt_or_ge (k + 1) t with q | q
          · exact q
          · exfalso
            have : k + 1 = t := by omega
            rw [this, hst] at hie; omega
        have h59 := (hp.2.1 k w2).2.2 hk1t
        rw [← hie] at h59
        rw [← hie, w5] at q1
        obtain ⟨s1, s2, s3, s4⟩ := some4 q1
        rw [← s1, ← s2, ← s3] at q2
        rw [← s2, ← s3] at q3
        rw [← s3] at q4
        rw [← s4] at q5
        rw [← s2] at q6
        rw [← s3] at q7
        rw [← s4] at q8
        have hd59 : dst b f l h (tx i) = some (0, f, l, h) := by rw [h59]; exact dst_59 q2
        rcases a1 with ⟨y1, -⟩ | ⟨b3', f3, l3, h3, y1, y2, y3⟩
        · rw [hd59] at y1; cases y1
        · rw [hd59] at y1
          obtain ⟨e5, e6, e7, e8⟩ := some4 y1
          rw [← e5, ← e6, ← e7, ← e8] at y3
          generalize hac : f_d_accepts (g_sel [3] zm) (Int32.ofNat (tx i)) = Ac at *
          have hy5 : ∀ y, y ≠ 3 → g_mrg [3] zm Ac.2 y = zm y := (g_mrg3 zm Ac.2).1
          have hy05 : g_mrg [3] zm Ac.2 0 5 = Int32.ofNat L := by rw [hy5 0 (by decide), z05]
          have hwk' : wK c A x1 Z (Z 5) k N (g_mrg [3] zm Ac.2) := wK_cell (fun y y1 y2 => hy5 y (by omega)) hwk
          have hk2 := (hp.2.1 (k + 1) hk1t).1
          have hkle2 := hle (k + 1) (by omega)
          have hend : i + 1 ≠ L := by omega
          have g0 : g_mrg [3] zm Ac.2 3 0 = Int32.ofNat 0 := y3.1
          have g1 : g_mrg [3] zm Ac.2 3 1 = Int32.ofNat f := y3.2.1
          have g2 : g_mrg [3] zm Ac.2 3 2 = Int32.ofNat l := y3.2.2.1
          have g3 : g_mrg [3] zm Ac.2 3 3 = Int32.ofNat h := y3.2.2.2
          obtain ⟨k1, k2, k3⟩ := wK_step (f := f) (l := l) (h := h) hwk' (by omega) q3 q4 q5 hc q6 q7 q8
          have neL' : ¬ (Int32.ofNat (i + 1) = g_mrg [3] zm Ac.2 0 5) := by rw [hy05]; exact neL (by omega) (by omega) hend
          have p59 : g_mrg [3] zm Ac.2 2 (Int32.ofNat i).toNatClampNeg = (59 : Int32) := by rw [hy5 2 (by decide), z2i, h59]; rfl
          have o3 : ∀ R : gM, (g_mrg [4, 5, 6, 7, 8, 9, 10, 11, 12, 13, 14, 15, 16, 17, 18, 19] (g_mrg [3] zm Ac.2) R) 3 = g_mrg [3] zm Ac.2 3 := fun R => mrg_out _ _ 3 (by omega)
          have esum : Int32.ofNat l - Int32.ofNat f + (1 : Int32) = Int32.ofNat (l - f + 1) := by
            rw [show Int32.ofNat l = Int32.ofNat ((l - f) + f) by rw [show (l - f) + f = l by omega], subNN, e1r]
          unfold L_h_writeAll_46 K_h_writeAll_46
          simp only [g_let_def, if_neg nle, z2i, hac, e1r, if_neg neL', if_pos p59, g1, g2, g3, o3, esum, nI_plus2]
          refine ⟨⟨vi, a2, vi, k1, trivial⟩, fun _ => ⟨⟨i + 1, k + 1, N + (l - f + 1), rfl, rfl, by omega, by omega, k2, fun y hy1 hy2 => ?_, fun k' hk' => ?_, Or.inr ⟨by omega, hk1t, by omega, by omega, 0, 0, 0, 0, ?_, ?_⟩⟩, ?_⟩, fun q => (by cases q)⟩
          · rw [mrg_out _ _ y hy2, hy5 y hy1, hs y hy1 hy2]
          · by_cases z : k' = k
            · subst z; exact ⟨k3, hwk.2.1⟩
            · exact hok k' (by omega)
          · rw [show i + 1 - st (k + 1) = 0 by omega]; rfl
          · refine ⟨?_, fun z => absurd rfl z⟩
            rw [← g0]
            exact congrFun (o3 _) 0
          · rw [ii, ii1]; omega
