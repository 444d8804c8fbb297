/-! the reference reads a text -/
theorem dst_b0 {f l h f' l' h' c : Nat} : dst 0 f l h c = dst 0 f' l' h' c := by
  by_cases w : 48 ≤ c ∧ c ≤ 57
  · rw [dst_0 w, dst_0 w]
  · rw [dst_0n w, dst_0n w]
theorem drn_b0 {tx : Nat → Nat} {f l h f' l' h' a n : Nat} (hn : 1 ≤ n) : drn tx (0, f, l, h) a n = drn tx (0, f', l', h') a n := by
  obtain ⟨k, rfl⟩ : ∃ k, n = k + 1 := ⟨n - 1, by omega⟩
  show (dst 0 f l h (tx a)).bind _ = (dst 0 f' l' h' (tx a)).bind _
  rw [dst_b0 (f := f) (l := l) (h := h) (f' := f') (l' := l') (h' := h')]
theorem drn_stop {tx : Nat → Nat} {s : Nat × Nat × Nat × Nat} {a i b f l h : Nat} (h1 : drn tx s a i = some (b, f, l, h)) (h2 : dst b f l h (tx (a + i)) = none) : ∀ j, i < j → drn tx s a j = none := by
  intro j hj
  obtain ⟨k, rfl⟩ : ∃ k, j = i + (k + 1) := ⟨j - i - 1, by omega⟩
  rw [drn_add, h1]
  show (dst b f l h (tx (a + i))).bind _ = none
  rw [h2]; rfl
def ptP (tx : Nat → Nat) (T : Nat → Int32) (k a e : Nat) : Prop := ∃ b f l h, drn tx (0, 0, 0, 0) a (e - a) = some (b, f, l, h) ∧ a < e ∧ pW b f l ∧ T (3 * k) = Int32.ofNat f ∧ T (3 * k + 1) = Int32.ofNat l ∧ T (3 * k + 2) = Int32.ofNat h ∧ ∀ i, a ≤ i → i < e → tx i ≠ 59
/-- parts told so far: part k from st k to st (k + 1) - 1 -/
def pts (tx : Nat → Nat) (T : Nat → Int32) (t : Nat) (st : Nat → Nat) : Prop := st 0 = 0 ∧ (∀ k, k < t → st k + 2 ≤ st (k + 1) ∧ ptP tx T k (st k) (st (k + 1) - 1) ∧ (k + 1 < t → tx (st (k + 1) - 1) = 59)) ∧ 2 * t ≤ st t
theorem ptP_T {tx : Nat → Nat} {T T' : Nat → Int32} {k a e : Nat} (h : ptP tx T k a e) (hT : ∀ j, j < 3 * (k + 1) → T' j = T j) : ptP tx T' k a e := by
  obtain ⟨b, f, l, h', h1, h2, h3, h4, h5, h6, h7⟩ := h
  exact ⟨b, f, l, h', h1, h2, h3, by rw [hT _ (by omega), h4], by rw [hT _ (by omega), h5], by rw [hT _ (by omega), h6], h7⟩
theorem pts_s {tx : Nat → Nat} {T T' : Nat → Int32} {t a e : Nat} {st : Nat → Nat} (h : pts tx T t st) (hT : ∀ j, j < 3 * t → T' j = T j) (ha : st t = a) (he : a + 2 ≤ e) (hl : ∀ k, k < t → k + 1 = t → tx (st (k + 1) - 1) = 59) (hp : ptP tx T' t a (e - 1)) : pts tx T' (t + 1) (fun k => if k ≤ t then st k else e) := by
  obtain ⟨h1, h2, h3⟩ := h
  refine ⟨by dsimp only; rw [if_pos (by omega)]; exact h1, fun k hk => ?_, ?_⟩
  · by_cases q : k = t
    · subst q
      dsimp only
      rw [if_pos (Nat.le_refl _), if_neg (by omega), ha]
      exact ⟨he, hp, fun w => by omega⟩
    · obtain ⟨q1, q2, q3⟩ := h2 k (by omega)
      dsimp only
      rw [if_pos (by omega), if_pos (by omega)]
      refine ⟨q1, ptP_T q2 (fun j hj => hT j (by omega)), fun w => ?_⟩
      by_cases q4 : k + 1 = t
      · exact hl k (by omega) q4
      · exact q3 (by omega)
  · dsimp only
    rw [if_neg (by omega)]; omega
def txt (L : Nat) (tx : Nat → Nat) (T : Nat → Int32) (t : Nat) (st : Nat → Nat) : Prop := 1 ≤ t ∧ t ≤ 30 ∧ st t = L + 1 ∧ pts tx T t st
theorem dst_59 {b f l h : Nat} (hp : pW b f l) : dst b f l h 59 = some (0, f, l, h) := by
  unfold pW at hp; unfold dst; rw [if_neg (by omega), if_neg (by omega), if_neg (by omega), if_pos rfl, if_pos hp]
theorem isText_loop {L : Nat} {tx : Nat → Nat} {m : gM} (h : rP L tx 0 0 m) :
    rOk L_r_isText_17 K_r_isText_17 400 ((1 : Int32), m, 0) ∧ fr5 m (run L_r_isText_17 400 ((1 : Int32), m, 0)).2.1 ∧ ∃ i t b f l h', rP L tx i t (run L_r_isText_17 400 ((1 : Int32), m, 0)).2.1 ∧ drn tx (0, 0, 0, 0) 0 i = some (b, f, l, h') ∧
      (((run L_r_isText_17 400 ((1 : Int32), m, 0)).2.2 = 0 ∧ pW b f l ∧ (i < L → dst b f l h' (tx i) = none) ∧ 1 ≤ t ∧ ∃ st, pts tx ((run L_r_isText_17 400 ((1 : Int32), m, 0)).2.1 5) t st ∧ st t = i + 1) ∨ ((run L_r_isText_17 400 ((1 : Int32), m, 0)).2.2 = 1 ∧ ¬ pW b f l ∧ ((i < L ∧ (run L_r_isText_17 400 ((1 : Int32), m, 0)).2.1 0 8 = 1 ∧ dst b f l h' (tx i) = none) ∨ (i = L ∧ (run L_r_isText_17 400 ((1 : Int32), m, 0)).2.1 0 8 = 0)))) := by
  have hL60 := h.2.1
  have n10 : ¬ ((1 : Int32) = 0) := by decide
  refine run_wf (K := K_r_isText_17) (fuel := 400) (z := ((1 : Int32), m, 0))
    (fun (z : Int32 × gM × Nat) => fr5 m z.2.1 ∧ z.2.2 = 0 ∧ ∃ t st b f l h', pts tx (z.2.1 5) t st ∧ ((z.1 = 1 ∧ rP L tx (st t) t z.2.1 ∧ b = 0 ∧ drn tx (0, 0, 0, 0) 0 (st t) = some (b, f, l, h') ∧ (∀ k, k < t → k + 1 = t → tx (st (k + 1) - 1) = 59)) ∨ (z.1 = 0 ∧ 1 ≤ t ∧ rP L tx (st t - 1) t z.2.1 ∧ pW b f l ∧ drn tx (0, 0, 0, 0) 0 (st t - 1) = some (b, f, l, h') ∧ (st t - 1 < L → dst b f l h' (tx (st t - 1)) = none))))
    (fun (z : Int32 × gM × Nat) => if z.1 = 0 then 0 else L - (z.2.1 0 7).toNatClampNeg + 1)
    (fun (z : Int32 × gM × Nat) => fr5 m z.2.1 ∧ ∃ i t b f l h', rP L tx i t z.2.1 ∧ drn tx (0, 0, 0, 0) 0 i = some (b, f, l, h') ∧ ((z.2.2 = 0 ∧ pW b f l ∧ (i < L → dst b f l h' (tx i) = none) ∧ 1 ≤ t ∧ ∃ st, pts tx (z.2.1 5) t st ∧ st t = i + 1) ∨ (z.2.2 = 1 ∧ ¬ pW b f l ∧ ((i < L ∧ z.2.1 0 8 = 1 ∧ dst b f l h' (tx i) = none) ∨ (i = L ∧ z.2.1 0 8 = 0)))))
    ⟨fr5_r m, rfl, 0, fun _ => 0, 0, 0, 0, 0, ⟨rfl, fun k hk => by omega, by omega⟩, Or.inl ⟨rfl, h, rfl, rfl, fun k hk => by omega⟩⟩ (by show (if (1 : Int32) = 0 then 0 else L - (m 0 7).toNatClampNeg + 1) < 400; rw [if_neg n10]; omega) (fun z hI => ?_)
  obtain ⟨z1, zm, zc⟩ := z
  obtain ⟨hf5, hzc, t, st, b, f, l, h', hp, hcase⟩ := hI
  dsimp only at hf5 hzc hp hcase
  subst hzc
  rcases hcase with ⟨hz1, hr, hb, hd, hl59⟩ | ⟨hz1, ht1, hr, hpw, hd, hdn⟩
  · subst hz1
    subst hb
    have hst := hr.2.2.2.1
    have h2t := hp.2.2
    obtain ⟨k1, n, b', f', l', h2, k2, k3, k4, k5, k6, k7, k8⟩ := takesPart_R (f0 := f) (l0 := l) (h0 := h') hr (show 3 * t + 2 < 96 by omega)
    have hd' : drn tx (0, 0, 0, 0) 0 (st t + n) = some (b', f', l', h2) := by
      rw [drn_add, hd]; show drn tx (0, f, l, h') (0 + st t) n = _; rw [Nat.zero_add]; exact k4
    unfold L_r_isText_17 K_r_isText_17
    simp only [g_let_def, if_neg n10]
    rcases k8 with ⟨x1, x2, x3, x4, x5, x6, x7⟩ | ⟨x1, x2, x3⟩
    · have x1' : ¬ ((f_r_takesPart zm).1 = 0) := by rw [x1]; exact n10
      have hr1 : rP L tx (st t + n) (t + 1) (g_set (f_r_takesPart zm).2 0 (upd ((f_r_takesPart zm).2 0) 10 (((f_r_takesPart zm).2 0 10) + (1 : Int32)))) := by
        obtain ⟨p1, p2, p3, p4, p5, p6⟩ := k5
        refine ⟨p1, p2, p3, p4, ?_, p6⟩
        show (f_r_takesPart zm).2 0 10 + 1 = _; rw [p5, e1r]
      have hf1 : fr5 zm (g_set (f_r_takesPart zm).2 0 (upd ((f_r_takesPart zm).2 0) 10 (((f_r_takesPart zm).2 0 10) + (1 : Int32)))) :=
        fr5_t k6 ⟨fun c hc _ => g_set_n hc, fun f _ _ h10 => by rw [g_set_s, upd_at, if_neg h10]⟩
      obtain ⟨s1, scase⟩ := takes_R (sg := 59) hr1 (by omega)
      have e59 : Int32.ofNat 59 = (59 : Int32) := rfl
      rw [e59] at s1 scase
      have hT5 : ∀ j, (g_set (f_r_takesPart zm).2 0 (upd ((f_r_takesPart zm).2 0) 10 (((f_r_takesPart zm).2 0 10) + (1 : Int32)))) 5 j = (f_r_takesPart zm).2 5 j := fun j => rfl
      generalize g_set (f_r_takesPart zm).2 0 (upd ((f_r_takesPart zm).2 0) 10 (((f_r_takesPart zm).2 0 10) + (1 : Int32))) = Y at *
      have hpt : ∀ T : Nat → Int32, (∀ j, T j = (f_r_takesPart zm).2 5 j) → ptP tx T t (st t) (st t + n + 1 - 1) := fun T hT =>
        ⟨b', f', l', h2, by rw [show st t + n + 1 - 1 - st t = n by omega]; exact (drn_b0 x2).trans k4, by omega, x3, by rw [hT, x4], by rw [hT, x5], by rw [hT, x6], fun i i1 i2 => k3 i i1 (by omega)⟩
      simp only [if_neg x1']
      rcases scase with ⟨g1, g2, g3, g4, g5, g6⟩ | ⟨g1, g3, g4, g5, g6⟩
      · have hT : ∀ j, (f_r_takes Y (59 : Int32)).2 5 j = (f_r_takesPart zm).2 5 j := fun j => by rw [g6]; exact hT5 j
        refine ⟨⟨k1, s1, trivial⟩, fun _ => ⟨⟨fr5_t hf5 (fr5_t hf1 g5), trivial, t + 1, fun k => if k ≤ t then st k else st t + n + 1, 0, f', l', h2, pts_s hp (fun j hj => by rw [hT, k7 j hj]) rfl (by omega) hl59 (hpt _ hT), Or.inl ⟨g3, ?_, rfl, ?_, fun k hk hk1 => ?_⟩⟩, ?_⟩, fun q => (by cases q)⟩
        · dsimp only; rw [if_neg (by omega)]; exact g4
        · dsimp only; rw [if_neg (by omega)]
          exact drn_snoc hd' (by rw [Nat.zero_add, g2]; exact dst_59 x3)
        · dsimp only; rw [if_neg (by omega), show st t + n + 1 - 1 = st t + n by omega]; exact g2
        · rw [g3, if_neg n10, g4.2.2.1, hr.2.2.1, nI_ix (by omega), nI_ix (by omega)]; omega
      · have hT : ∀ j, (f_r_takes Y (59 : Int32)).2 5 j = (f_r_takesPart zm).2 5 j := fun j => by rw [g6]; exact hT5 j
        refine ⟨⟨k1, s1, trivial⟩, fun _ => ⟨⟨fr5_t hf5 (fr5_t hf1 g5), trivial, t + 1, fun k => if k ≤ t then st k else st t + n + 1, b', f', l', h2, pts_s hp (fun j hj => by rw [hT, k7 j hj]) rfl (by omega) hl59 (hpt _ hT), Or.inr ⟨g3, by omega, ?_, x3, ?_, fun q => ?_⟩⟩, ?_⟩, fun q => (by cases q)⟩
        · dsimp only; rw [if_neg (by omega), show st t + n + 1 - 1 = st t + n by omega]; exact g4
        · dsimp only; rw [if_neg (by omega), show st t + n + 1 - 1 = st t + n by omega]; exact hd'
        · dsimp only at q ⊢; rw [if_neg (by omega), show st t + n + 1 - 1 = st t + n by omega] at q ⊢
          exact x7 q (fun z => g1 ⟨q, z⟩)
        · rw [g3, if_pos rfl]; omega
    · simp only [if_pos x1]
      exact ⟨⟨k1, trivial⟩, fun q => (by cases q), fun _ => ⟨fr5_t hf5 k6, st t + n, t, b', f', l', h2, k5, hd', Or.inr ⟨trivial, x2, x3⟩⟩⟩
  · subst hz1
    have h2t := hp.2.2
    unfold L_r_isText_17 K_r_isText_17
    simp only [if_true]
    exact ⟨trivial, fun q => (by cases q), fun _ => ⟨hf5, st t - 1, t, b, f, l, h', hr, hd, Or.inl ⟨trivial, hpw, hdn, ht1, st, hp, by omega⟩⟩⟩
theorem isText_R {L : Nat} {tx : Nat → Nat} {m : gM} (h1 : m 0 5 = Int32.ofNat L) (h2 : L ≤ 60) (h3 : ∀ i, i < L → m 4 i = Int32.ofNat (tx i) ∧ 33 ≤ tx i ∧ tx i ≤ 126) :
    o_r_isText m ∧ fr5 m (f_r_isText m).2 ∧ (((f_r_isText m).1 = 1 ∧ ∃ t st b f l h', (f_r_isText m).2 0 10 = Int32.ofNat t ∧ txt L tx ((f_r_isText m).2 5) t st ∧ drn tx (0, 0, 0, 0) 0 L = some (b, f, l, h') ∧ pW b f l) ∨ ((f_r_isText m).1 = 0 ∧ ∃ i b f l h', drn tx (0, 0, 0, 0) 0 i = some (b, f, l, h') ∧ ((i < L ∧ dst b f l h' (tx i) = none ∧ (f_r_isText m).2 0 8 = 1 ∧ (f_r_isText m).2 0 7 = Int32.ofNat i) ∨ (i = L ∧ ¬ pW b f l ∧ (f_r_isText m).2 0 8 = 0)))) := by
  have n10 : ¬ ((1 : Int32) = 0) := by decide
  have hz : rP L tx 0 0 (g_set (g_set (g_set m 0 (upd (m 0) 7 (0 : Int32))) 0 (upd ((g_set m 0 (upd (m 0) 7 (0 : Int32))) 0) 10 (0 : Int32))) 0 (upd ((g_set (g_set m 0 (upd (m 0) 7 (0 : Int32))) 0 (upd ((g_set m 0 (upd (m 0) 7 (0 : Int32))) 0) 10 (0 : Int32))) 0) 8 (0 : Int32))) := ⟨h1, h2, rfl, Nat.zero_le _, rfl, h3⟩
  have hf : fr5 m (g_set (g_set (g_set m 0 (upd (m 0) 7 (0 : Int32))) 0 (upd ((g_set m 0 (upd (m 0) 7 (0 : Int32))) 0) 10 (0 : Int32))) 0 (upd ((g_set (g_set m 0 (upd (m 0) 7 (0 : Int32))) 0 (upd ((g_set m 0 (upd (m 0) 7 (0 : Int32))) 0) 10 (0 : Int32))) 0) 8 (0 : Int32))) := by
    refine ⟨fun c hc _ => by rw [g_set_n hc, g_set_n hc, g_set_n hc], fun f h7 h8 h10 => ?_⟩
    rw [g_set_s, upd_at, if_neg h8, g_set_s, upd_at, if_neg h10, g_set_s, upd_at, if_neg h7]
  unfold f_r_isText o_r_isText
  simp only [g_let_def]
  generalize g_set (g_set (g_set m 0 (upd (m 0) 7 (0 : Int32))) 0 (upd ((g_set m 0 (upd (m 0) 7 (0 : Int32))) 0) 10 (0 : Int32))) 0 (upd ((g_set (g_set m 0 (upd (m 0) 7 (0 : Int32))) 0 (upd ((g_set m 0 (upd (m 0) 7 (0 : Int32))) 0) 10 (0 : Int32))) 0) 8 (0 : Int32)) = Z at *
  obtain ⟨k1, k2, i, t, b, f, l, h', k3, k4, k5⟩ := isText_loop hz
  generalize run L_r_isText_17 400 ((1 : Int32), Z, 0) = R at *
  have hi := k3.2.2.2.1
  have key : ∀ x : Int32, fr5 m (g_set R.2.1 0 (upd (R.2.1 0) 8 x)) := fun x => fr5_t hf (fr5_t k2 ⟨fun c hc _ => g_set_n hc, fun f _ h8 _ => by rw [g_set_s, upd_at, if_neg h8]⟩)
  have q7 : ∀ x : Int32, (g_set R.2.1 0 (upd (R.2.1 0) 8 x)) 0 7 = Int32.ofNat i := fun x => k3.2.2.1
  have q5 : ∀ x : Int32, (g_set R.2.1 0 (upd (R.2.1 0) 8 x)) 0 5 = Int32.ofNat L := fun x => k3.1
  rcases k5 with ⟨c0, x1, x2, x3, st, x4, x5⟩ | ⟨c1, x1, x2⟩
  · by_cases w : i < L
    · have nle : ¬ (R.2.1 0 5 ≤ R.2.1 0 7) := by rw [k3.1, k3.2.2.1]; exact fun z => by have := (leI (by omega) (by omega)).mp z; omega
      have neq : ¬ ((g_set R.2.1 0 (upd (R.2.1 0) 8 (1 : Int32))) 0 7 = (g_set R.2.1 0 (upd (R.2.1 0) 8 (1 : Int32))) 0 5) := by rw [q7, q5]; exact neL (by omega) (by omega) (by omega)
      simp only [if_pos c0, if_neg nle, if_neg neq]
      exact ⟨⟨k1, trivial⟩, key 1, Or.inr ⟨trivial, i, b, f, l, h', k4, Or.inl ⟨w, x2 w, rfl, q7 1⟩⟩⟩
    · have eL : i = L := by omega
      subst eL
      have le : R.2.1 0 5 ≤ R.2.1 0 7 := by rw [k3.1, k3.2.2.1]; exact (leI (by omega) (by omega)).mpr (by omega)
      have eq : (g_set R.2.1 0 (upd (R.2.1 0) 8 (0 : Int32))) 0 7 = (g_set R.2.1 0 (upd (R.2.1 0) 8 (0 : Int32))) 0 5 := by rw [q7, q5]
      have h2t := x4.2.2
      simp only [if_pos c0, if_pos le, if_pos eq]
      exact ⟨⟨k1, trivial⟩, key 0, Or.inl ⟨trivial, t, st, b, f, l, h', k3.2.2.2.2.1, ⟨x3, by omega, x5, x4⟩, k4, x1⟩⟩
  · have c1' : ¬ (R.2.2 = 0) := by rw [c1]; omega
    simp only [if_neg c1']
    refine ⟨⟨k1, trivial⟩, fr5_t hf k2, Or.inr ⟨trivial, i, b, f, l, h', k4, ?_⟩⟩
    rcases x2 with ⟨y1, y2, y3⟩ | ⟨y1, y2⟩
    · exact Or.inl ⟨y1, y3, y2, k3.2.2.1⟩
    · exact Or.inr ⟨y1, x1, y2⟩
/-- the buffers of both pictures hold one text -/
theorem rTx_tx {mh mr : gM} (h : rTx mh mr) : ∃ L tx, bfR L tx mh ∧ mr 0 5 = Int32.ofNat L ∧ L ≤ 60 ∧ ∀ i, i < L → mr 4 i = Int32.ofNat (tx i) ∧ 33 ≤ tx i ∧ tx i ≤ 126 := by
  obtain ⟨L, h1, h2, h3, h4⟩ := h
  have key : ∀ i, i < L → mr 4 i = Int32.ofNat (mr 4 i).toNatClampNeg ∧ 33 ≤ (mr 4 i).toNatClampNeg ∧ (mr 4 i).toNatClampNeg ≤ 126 := fun i hi => by
    obtain ⟨-, c, c1, c2, c3⟩ := h4 i hi
    rw [c3, nI_ix (by omega)]; exact ⟨rfl, c1, c2⟩
  exact ⟨L, fun i => (mr 4 i).toNatClampNeg, ⟨h2, h1, fun i hi => ⟨by rw [(h4 i hi).1]; exact (key i hi).1, (key i hi).2⟩⟩, h3, h1, key⟩
theorem fr5_Rl {n : Nat} {mh mh' mr mr' : gM} (h : Rl n mh mr) (h1 : ∀ c, c ≠ 3 → mh' c = mh c) (h2 : fr5 mr mr') : Rl n mh' mr' := by
  obtain ⟨g1, ⟨k, hk, g2⟩, g3⟩ := h
  obtain ⟨f1, f2⟩ := h2
  have a0 := h1 0 (by omega)
  refine ⟨?_, ⟨k, hk, rSv_same (by rw [a0]) (fun x hx1 hx2 => h1 x (by omega)) (f2 3 (by omega) (by omega) (by omega)) (f1 3 (by omega) (by omega)) hk g2⟩, rTx_same (h1 2 (by omega)) (by rw [a0]) (f1 4 (by omega) (by omega)) (f2 5 (by omega) (by omega) (by omega)) g3⟩
  rw [f1 1 (by omega) (by omega)]
  exact hQ_cell (b := 4) (m := mh) (fun j hj1 hj2 => h1 _ (by omega)) (congrFun (h1 4 (by omega)) 15) (congrFun (h1 4 (by omega)) 16) (fun _ _ => rfl) g1
theorem op_firstError_ok {n : Nat} {mh mr : gM} (h : Rl n mh mr) : op_firstError (Rl (n + 1)) mh mr := by
  obtain ⟨L, tx, hb, t1, t2, t3⟩ := rTx_tx h.2.2
  obtain ⟨k1, i, b, f, l, h', k2, k3, k4, k5, k6, k7⟩ := readBuffer_d hb
  obtain ⟨r1, r2, r3⟩ := isText_R (m := g_set mr 0 (upd (mr 0) 6 (0 : Int32))) (L := L) (tx := tx) t1 t2 t3
  have n10 : ¬ ((1 : Int32) = 0) := by decide
  have hz := z_Rl h
  have hf := fr5_Rl hz k7 r2
  have t5 : (f_r_isText (g_set mr 0 (upd (mr 0) 6 (0 : Int32)))).2 0 5 = Int32.ofNat L := by rw [r2.2 5 (by omega) (by omega) (by omega)]; exact t1
  have iL : (∃ s, drn tx (0, 0, 0, 0) 0 L = some s) → i = L := fun ⟨s, hs⟩ => by
    rcases k5 with q | ⟨q1, q2⟩
    · exact q
    · rw [drn_stop k4 (by rw [Nat.zero_add]; exact q2) L q1] at hs; cases hs
  unfold op_firstError f_h_firstError o_h_firstError f_r_firstError o_r_firstError
  simp only [g_let_def]
  rcases r3 with ⟨x1, t, st, b2, f2, l2, h2, x2, x3, x4, x5⟩ | ⟨x1, j, b2, f2, l2, h2, x2, x3⟩
  · have x1' : ¬ ((f_r_isText (g_set mr 0 (upd (mr 0) 6 (0 : Int32)))).1 = 0) := by rw [x1]; exact n10
    simp only [if_neg x1']
    exact ⟨⟨k1, trivial⟩, ⟨r1, trivial⟩, by rw [k2, t5, iL ⟨_, x4⟩], hf⟩
  · rcases x3 with ⟨y1, y2, y3, y4⟩ | ⟨y1, y2, y3⟩
    · have y3' : ¬ ((f_r_isText (g_set mr 0 (upd (mr 0) 6 (0 : Int32)))).2 0 8 = 0) := by rw [y3]; exact n10
      simp only [if_pos x1, if_neg y3']
      have hij : i = j := by
        rcases Nat.lt_trichotomy i j with q | q | q
        · rcases k5 with p | ⟨p1, p2⟩
          · omega
          · have := drn_stop k4 (by rw [Nat.zero_add]; exact p2) j q
            rw [x2] at this; cases this
        · exact q
        · have := drn_stop x2 (by rw [Nat.zero_add]; exact y2) i q
          rw [k4] at this; cases this
      exact ⟨⟨k1, trivial⟩, ⟨r1, trivial⟩, by rw [k2, y4, hij], hf⟩
    · subst y1
      simp only [if_pos x1, if_pos y3]
      exact ⟨⟨k1, trivial⟩, ⟨r1, trivial⟩, by rw [k2, t5, iL ⟨_, x2⟩], hf⟩
