/-! writeAll -/
theorem part_RS {c N x f l h k : Nat} {A m zm : gM} {x1 : Int32} (hw : wS c N x A m (vA (zm 1))) (hfl : f ≤ l) (hl : l < 40) (hh : h < 4) (hc : c + 97 * (N + 40) < 100000000) (hk : k < 31) (t1 : zm 5 (3 * k + 1) = Int32.ofNat l) (t2 : zm 5 (3 * k + 2) = Int32.ofNat h) :
    rOk (L_r_writeAll_55 x1 (Int32.ofNat k)) (K_r_writeAll_55 x1 (Int32.ofNat k)) 400 (Int32.ofNat f, zm) ∧ o_s_writePages m (Int32.ofNat f) (Int32.ofNat l) (Int32.ofNat h) ∧ (∃ x', wS c (N + (l - f + 1)) x' A (f_s_writePages m (Int32.ofNat f) (Int32.ofNat l) (Int32.ofNat h)).2 (vA ((run (L_r_writeAll_55 x1 (Int32.ofNat k)) 400 (Int32.ofNat f, zm)).2 1))) ∧ (∀ c, c ≠ 1 → (run (L_r_writeAll_55 x1 (Int32.ofNat k)) 400 (Int32.ofNat f, zm)).2 c = zm c) := by
  have e1 : (3 : Int32) * Int32.ofNat k + (1 : Int32) = Int32.ofNat (3 * k + 1) := by rw [show (3 : Int32) = Int32.ofNat 3 from rfl, nI_times]; exact nI_plus2 _ 1
  have e2 : (3 : Int32) * Int32.ofNat k + (2 : Int32) = Int32.ofNat (3 * k + 2) := by rw [show (3 : Int32) = Int32.ofNat 3 from rfl, nI_times]; exact nI_plus2 _ 2
  have v1 := vp_in_nI (show 3 * k + 1 < 96 by omega) (show 96 < 2 ^ 31 by omega)
  have v2 := vp_in_nI (show 3 * k + 2 < 96 by omega) (show 96 < 2 ^ 31 by omega)
  have hL := run2 (f := L_r_writeAll_55 x1 (Int32.ofNat k)) (g := L_s_writePages_9 (Int32.ofNat f) (Int32.ofNat l) (Int32.ofNat h) (f_s_copies m)) (K := K_r_writeAll_55 x1 (Int32.ofNat k)) (K' := K_s_writePages_9 (Int32.ofNat f) (Int32.ofNat l) (Int32.ofNat h) (f_s_copies m)) (n := l - f + 1) (fuel := 400) (fuel' := 400) (z := (Int32.ofNat f, zm)) (w := (Int32.ofNat f, m))
    (fun r (z : Int32 × gM) (w : Int32 × gM) => ∃ i x, r + i = l - f + 1 ∧ z.1 = Int32.ofNat (f + i) ∧ w.1 = Int32.ofNat (f + i) ∧ wS c (N + i) x A w.2 (vA (z.2 1)) ∧ ∀ c, c ≠ 1 → z.2 c = zm c)
    (fun (z : Int32 × gM) (w : Int32 × gM) => (∃ x, wS c (N + (l - f + 1)) x A w.2 (vA (z.2 1))) ∧ ∀ c, c ≠ 1 → z.2 c = zm c)
    (by omega) (by omega) ⟨0, x, by omega, rfl, rfl, hw, fun _ _ => rfl⟩ (fun r z w hI => ?_)
  · obtain ⟨a1, a2, a3, a4⟩ := hL
    unfold f_s_writePages o_s_writePages
    simp only [g_let_def]
    exact ⟨a1, ⟨trivial, a2, trivial, trivial⟩, a3, a4⟩
  · obtain ⟨z1, z2⟩ := z
    obtain ⟨w1, w2⟩ := w
    obtain ⟨i, x, hr, hz1, hw1, hw, hc1⟩ := hI
    dsimp only at hz1 hw1 hw hc1
    subst hz1
    subst hw1
    have q1 : z2 5 (Int32.ofNat (3 * k + 1)).toNatClampNeg = Int32.ofNat l := by rw [nI_ix (by omega), hc1 5 (by decide), t1]
    have q2 : z2 5 (Int32.ofNat (3 * k + 2)).toNatClampNeg = Int32.ofNat h := by rw [nI_ix (by omega), hc1 5 (by decide), t2]
    by_cases hi : f + i ≤ l
    · have n1 : ¬ (Int32.ofNat l < Int32.ofNat (f + i)) := nltL (by omega) (by omega) (by omega)
      obtain ⟨k1, k2, x', k3, k4, -⟩ := wS_step hw (show f + i < 40 by omega) hh (by omega)
      obtain ⟨s1, s2⟩ := wp_step (m := w2) (x1 := Int32.ofNat f) (x3 := Int32.ofNat h) (x4 := f_s_copies m) (show f + i < 40 by omega) n1
      rw [s1, s2]
      unfold L_r_writeAll_55 K_r_writeAll_55
      simp only [g_let_def, e1, e2, q1, q2, if_neg n1, e1r]
      refine ⟨⟨v1, v2, k1, trivial⟩, ⟨k2, trivial⟩, Or.inl ⟨trivial, trivial, r - 1, by omega, i + 1, x + x', by omega, rfl, rfl, k4, fun c hc => ?_⟩⟩
      rw [(g_mrg1 z2 _).1 c hc]; exact hc1 c hc
    · have n2 : Int32.ofNat l < Int32.ofNat (f + i) := ltL (by omega) (by omega) (by omega)
      have hil : i = l - f + 1 := by omega
      subst hil
      obtain ⟨s3, s4⟩ := wp_end (m := w2) (x1 := Int32.ofNat f) (x3 := Int32.ofNat h) (x4 := f_s_copies m) n2
      rw [s3, s4]
      unfold L_r_writeAll_55 K_r_writeAll_55
      simp only [e1, e2, q1, if_pos n2]
      exact ⟨⟨v1, trivial⟩, trivial, Or.inr ⟨trivial, trivial, ⟨x, hw⟩, hc1⟩⟩
/-- the reference's picture after k parts -/
noncomputable def rqk (x1 : Int32) (Z : gM) (T : Nat → Int32) : Nat → gM
  | 0 => Z
  | k + 1 => (run (L_r_writeAll_55 x1 (Int32.ofNat k)) 400 (T (3 * k), rqk x1 Z T k)).2
theorem in38 {x1 : Int32} {Z : gM} {T : Nat → Int32} {t : Nat} (ht : t ≤ 30) (h10 : ∀ k, k ≤ t → rqk x1 Z T k 0 10 = Int32.ofNat t) (h5 : ∀ k, k < t → rqk x1 Z T k 5 (3 * k) = T (3 * k)) (hok : ∀ k, k < t → rOk (L_r_writeAll_55 x1 (Int32.ofNat k)) (K_r_writeAll_55 x1 (Int32.ofNat k)) 400 (T (3 * k), rqk x1 Z T k)) :
    rOk (L_r_writeAll_38 x1) (K_r_writeAll_38 x1) 400 ((0 : Int32), Z) ∧ (run (L_r_writeAll_38 x1) 400 ((0 : Int32), Z)).2 = rqk x1 Z T t := by
  refine run_count (N := t) (fuel := 400) (fun k (z : Int32 × gM) => z = (Int32.ofNat k, rqk x1 Z T k)) (fun (z : Int32 × gM) => z.2 = rqk x1 Z T t) (by omega) rfl (fun k z hk hz => ?_) (fun z hz => ?_)
  · subst hz
    have n1 : ¬ (rqk x1 Z T k 0 10 ≤ Int32.ofNat k) := by rw [h10 k (by omega)]; exact fun w => by have := (leI (by omega) (by omega)).mp w; omega
    have e3 : (3 : Int32) * Int32.ofNat k = Int32.ofNat (3 * k) := nI_times 3 k
    have q1 : rqk x1 Z T k 5 (Int32.ofNat (3 * k)).toNatClampNeg = T (3 * k) := by rw [nI_ix (by omega), h5 k hk]
    unfold L_r_writeAll_38 K_r_writeAll_38
    simp only [g_let_def, if_neg n1, e3, q1, e1r]
    exact ⟨⟨vp_in_nI (by omega) (by omega), hok k hk, trivial⟩, trivial, rfl⟩
  · subst hz
    have n1 : rqk x1 Z T t 0 10 ≤ Int32.ofNat t := by rw [h10 t (by omega)]; exact (leI (by omega) (by omega)).mpr (by omega)
    unfold L_r_writeAll_38 K_r_writeAll_38
    simp only [if_pos n1]
    refine ⟨trivial, trivial, ?_⟩
    first | trivial | rfl
theorem drn_pre {tx : Nat → Nat} {s : Nat × Nat × Nat × Nat} {a n j : Nat} {s' : Nat × Nat × Nat × Nat} (h : drn tx s a n = some s') (hj : j < n) : ∃ b f l h' b1 f1 l1 h1, drn tx s a j = some (b, f, l, h') ∧ dst b f l h' (tx (a + j)) = some (b1, f1, l1, h1) ∧ drn tx s a (j + 1) = some (b1, f1, l1, h1) := by
  obtain ⟨k, rfl⟩ : ∃ k, n = j + (k + 1) := ⟨n - j - 1, by omega⟩
  rw [drn_add] at h
  cases h1 : drn tx s a j with
  | none => rw [h1] at h; cases h
  | some q =>
    obtain ⟨b, f, l, h'⟩ := q
    rw [h1] at h
    have h2 : (dst b f l h' (tx (a + j))).bind (fun s' => drn tx s' (a + j + 1) k) = some s' := h
    cases h3 : dst b f l h' (tx (a + j)) with
    | none => rw [h3] at h2; cases h2
    | some q2 =>
      obtain ⟨b1, f1, l1, h1'⟩ := q2
      exact ⟨b, f, l, h', b1, f1, l1, h1', rfl, h3, drn_snoc h1 h3⟩
/-- what both sides keep, part by part: N pages are written by the first k parts -/
def wK (c : Nat) (A : gM) (x1 : Int32) (Z : gM) (T : Nat → Int32) (k N : Nat) (m : gM) : Prop := (∃ x, wS c N x A (g_sel [4, 5, 6, 7, 8, 9, 10, 11, 12, 13, 14, 15, 16, 17, 18, 19] m) (vA (rqk x1 Z T k 1))) ∧ (∀ y, y ≠ 1 → rqk x1 Z T k y = Z y) ∧ N ≤ 40 * k
theorem wK_cell {c k N : Nat} {A m m' Z : gM} {x1 : Int32} {T : Nat → Int32} (h4 : ∀ y, 4 ≤ y → y < 20 → m' y = m y) (hw : wK c A x1 Z T k N m) : wK c A x1 Z T k N m' := by
  obtain ⟨⟨x, h1⟩, h2⟩ := hw
  refine ⟨⟨x, ⟨jR_cell (m := g_sel [4, 5, 6, 7, 8, 9, 10, 11, 12, 13, 14, 15, 16, 17, 18, 19] m) (fun j j1 j2 => ?_) (congrFun (h4 4 (by omega) (by omega)) 15) (congrFun (h4 4 (by omega) (by omega)) 16) h1.1.1, h1.1.2⟩, h1.2⟩, h2⟩
  match j, j1, j2 with
  | 1, _, _ => exact h4 5 (by omega) (by omega)
  | 2, _, _ => exact h4 6 (by omega) (by omega)
  | 3, _, _ => exact h4 7 (by omega) (by omega)
  | 4, _, _ => exact h4 8 (by omega) (by omega)
  | 5, _, _ => exact h4 9 (by omega) (by omega)
  | 6, _, _ => exact h4 10 (by omega) (by omega)
  | 7, _, _ => exact h4 11 (by omega) (by omega)
  | 8, _, _ => exact h4 12 (by omega) (by omega)
  | 9, _, _ => exact h4 13 (by omega) (by omega)
  | 10, _, _ => exact h4 14 (by omega) (by omega)
  | 11, _, _ => exact h4 15 (by omega) (by omega)
  | 12, _, _ => exact h4 16 (by omega) (by omega)
  | 13, _, _ => exact h4 17 (by omega) (by omega)
  | 14, _, _ => exact h4 18 (by omega) (by omega)
  | 15, _, _ => exact h4 19 (by omega) (by omega)
  | n + 16, _, z => omega
  | 0, z, _ => omega
theorem wK_step {c k N f l h : Nat} {A m Z : gM} {x1 : Int32} (hw : wK c A x1 Z (Z 5) k N m) (hk : k < 30) (hfl : f ≤ l) (hl : l < 40) (hh : h < 4) (hc : c + 97 * 1240 < 100000000) (t0 : Z 5 (3 * k) = Int32.ofNat f) (t1 : Z 5 (3 * k + 1) = Int32.ofNat l) (t2 : Z 5 (3 * k + 2) = Int32.ofNat h) :
    o_s_writePages (g_sel [4, 5, 6, 7, 8, 9, 10, 11, 12, 13, 14, 15, 16, 17, 18, 19] m) (Int32.ofNat f) (Int32.ofNat l) (Int32.ofNat h) ∧ wK c A x1 Z (Z 5) (k + 1) (N + (l - f + 1)) (g_mrg [4, 5, 6, 7, 8, 9, 10, 11, 12, 13, 14, 15, 16, 17, 18, 19] m (f_s_writePages (g_sel [4, 5, 6, 7, 8, 9, 10, 11, 12, 13, 14, 15, 16, 17, 18, 19] m) (Int32.ofNat f) (Int32.ofNat l) (Int32.ofNat h)).2) ∧ rOk (L_r_writeAll_55 x1 (Int32.ofNat k)) (K_r_writeAll_55 x1 (Int32.ofNat k)) 400 (Z 5 (3 * k), rqk x1 Z (Z 5) k) := by
  obtain ⟨⟨x, h1⟩, h2, h3⟩ := hw
  obtain ⟨p1, p2, ⟨x', p3⟩, p4⟩ := part_RS (x1 := x1) (k := k) h1 hfl hl hh (by omega) (by omega) (by rw [h2 5 (by decide)]; exact t1) (by rw [h2 5 (by decide)]; exact t2)
  have e : rqk x1 Z (Z 5) (k + 1) = (run (L_r_writeAll_55 x1 (Int32.ofNat k)) 400 (Int32.ofNat f, rqk x1 Z (Z 5) k)).2 := by
    show (run (L_r_writeAll_55 x1 (Int32.ofNat k)) 400 (Z 5 (3 * k), rqk x1 Z (Z 5) k)).2 = _
    rw [t0]
  refine ⟨p2, ⟨⟨x', ?_⟩, fun y hy => by rw [e, p4 y hy, h2 y hy], by omega⟩, by rw [t0]; exact p1⟩
  rw [e]
  refine ⟨⟨jR_cell (m := (f_s_writePages (g_sel [4, 5, 6, 7, 8, 9, 10, 11, 12, 13, 14, 15, 16, 17, 18, 19] m) (Int32.ofNat f) (Int32.ofNat l) (Int32.ofNat h)).2) (fun j j1 j2 => ?_) rfl rfl p3.1.1, p3.1.2⟩, p3.2⟩
  match j, j1, j2 with
  | 1, _, _ => rfl
  | 2, _, _ => rfl
  | 3, _, _ => rfl
  | 4, _, _ => rfl
  | 5, _, _ => rfl
  | 6, _, _ => rfl
  | 7, _, _ => rfl
  | 8, _, _ => rfl
  | 9, _, _ => rfl
  | 10, _, _ => rfl
  | 11, _, _ => rfl
  | 12, _, _ => rfl
  | 13, _, _ => rfl
  | 14, _, _ => rfl
  | 15, _, _ => rfl
  | n + 16, _, z => omega
  | 0, z, _ => omega
theorem st_le {tx : Nat → Nat} {T : Nat → Int32} {t : Nat} {st : Nat → Nat} (h : pts tx T t st) : ∀ k, k ≤ t → st k + 2 * (t - k) ≤ st t := by
  intro k hk
  obtain ⟨d, hd⟩ : ∃ d, d = t - k := ⟨t - k, rfl⟩
  induction d generalizing k with
  | zero => have : k = t := by omega
            subst this; omega
  | succ d ih =>
    have := ih (k + 1) (by omega) (by omega)
    have := (h.2.1 k (by omega)).1
    omega
