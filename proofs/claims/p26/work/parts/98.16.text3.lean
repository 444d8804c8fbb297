/-! the reference's reading: where it stands, how many parts it has told -/
def rP (L : Nat) (tx : Nat → Nat) (a t : Nat) (m : gM) : Prop := m 0 5 = Int32.ofNat L ∧ L ≤ 60 ∧ m 0 7 = Int32.ofNat a ∧ a ≤ L ∧ m 0 10 = Int32.ofNat t ∧ ∀ i, i < L → m 4 i = Int32.ofNat (tx i) ∧ 33 ≤ tx i ∧ tx i ≤ 126
/-- what reading leaves -/
def fr5 (m m' : gM) : Prop := (∀ c, c ≠ 0 → c ≠ 5 → m' c = m c) ∧ ∀ f, f ≠ 7 → f ≠ 8 → f ≠ 10 → m' 0 f = m 0 f
theorem fr5_r (m : gM) : fr5 m m := ⟨fun _ _ _ => rfl, fun _ _ _ _ => rfl⟩
theorem fr5_t {m m' m'' : gM} (h : fr5 m m') (h' : fr5 m' m'') : fr5 m m'' := ⟨fun c a b => (h'.1 c a b).trans (h.1 c a b), fun f a b c => (h'.2 f a b c).trans (h.2 f a b c)⟩
theorem in_N {lo hi c : Nat} (h1 : lo < 1000) (h2 : hi < 1000) (h3 : c < 1000) : f_r_in (Int32.ofNat c) (Int32.ofNat lo) (Int32.ofNat hi) = if lo ≤ c ∧ c ≤ hi then 1 else 0 := by
  unfold f_r_in
  by_cases w1 : c < lo
  · rw [if_pos (ltL (by omega) (by omega) w1), if_neg (by omega)]
  · rw [if_neg (nltL (by omega) (by omega) w1)]
    by_cases w2 : hi < c
    · rw [if_pos (ltL (by omega) (by omega) w2), if_neg (by omega)]
    · rw [if_neg (nltL (by omega) (by omega) w2), if_pos (by omega)]
theorem isAt_R {L a t lo hi : Nat} {tx : Nat → Nat} {m : gM} (h : rP L tx a t m) (h1 : lo < 1000) (h2 : hi < 1000) : f_r_isAt m (Int32.ofNat lo) (Int32.ofNat hi) = (if a < L ∧ lo ≤ tx a ∧ tx a ≤ hi then 1 else 0) ∧ o_r_isAt m (Int32.ofNat lo) (Int32.ofNat hi) := by
  obtain ⟨p1, p2, p3, p4, p5, p6⟩ := h
  unfold f_r_isAt o_r_isAt
  rw [p1, p3, nI_ix (by omega)]
  by_cases w : a < L
  · obtain ⟨q1, q2, q3⟩ := p6 a w
    have n1 : ¬ (Int32.ofNat L ≤ Int32.ofNat a) := fun z => by have := (leI (by omega) (by omega)).mp z; omega
    have n10 : ¬ ((1 : Int32) = 0) := by decide
    rw [if_neg n1, if_neg n1, q1, in_N h1 h2 (by omega)]
    by_cases v : lo ≤ tx a ∧ tx a ≤ hi
    · rw [if_pos (show a < L ∧ lo ≤ tx a ∧ tx a ≤ hi from ⟨w, v⟩), if_pos v, if_neg n10, if_neg n10]; exact ⟨rfl, vp_in_nI (by omega) (by omega), o_in _ _ _, trivial⟩
    · rw [if_neg (show ¬ (a < L ∧ lo ≤ tx a ∧ tx a ≤ hi) from fun z => v z.2), if_neg v, if_pos rfl, if_pos rfl]; exact ⟨rfl, vp_in_nI (by omega) (by omega), o_in _ _ _, trivial⟩
  · have n1 : Int32.ofNat L ≤ Int32.ofNat a := (leI (by omega) (by omega)).mpr (by omega)
    rw [if_pos n1, if_pos n1, if_neg (show ¬ (a < L ∧ lo ≤ tx a ∧ tx a ≤ hi) from fun z => w z.1)]; exact ⟨rfl, trivial⟩
theorem stops_R {L a t : Nat} {tx : Nat → Nat} {m : gM} (h : rP L tx a t m) : (f_r_stops m).1 = 0 ∧ rP L tx a t (f_r_stops m).2 ∧ fr5 m (f_r_stops m).2 ∧ (f_r_stops m).2 5 = m 5 ∧ ((a < L ∧ (f_r_stops m).2 0 8 = 1) ∨ (a = L ∧ (f_r_stops m).2 0 8 = 0)) ∧ o_r_stops m := by
  obtain ⟨p1, p2, p3, p4, p5, p6⟩ := h
  have key : ∀ x : Int32, rP L tx a t (g_set m 0 (upd (m 0) 8 x)) ∧ fr5 m (g_set m 0 (upd (m 0) 8 x)) := fun x =>
    ⟨⟨p1, p2, p3, p4, p5, p6⟩, fun c h1 _ => g_set_n h1, fun f _ h8 _ => by rw [g_set_s, upd_at, if_neg h8]⟩
  unfold f_r_stops o_r_stops
  rw [p1, p3]
  by_cases w : a < L
  · have n1 : ¬ (Int32.ofNat L ≤ Int32.ofNat a) := fun z => by have := (leI (by omega) (by omega)).mp z; omega
    simp only [if_neg n1, g_let_def]
    exact ⟨trivial, (key 1).1, (key 1).2, rfl, Or.inl ⟨w, rfl⟩, trivial⟩
  · have n1 : Int32.ofNat L ≤ Int32.ofNat a := (leI (by omega) (by omega)).mpr (by omega)
    simp only [if_pos n1, g_let_def]
    exact ⟨trivial, (key 0).1, (key 0).2, rfl, Or.inr ⟨by omega, rfl⟩, trivial⟩
theorem step_R {L a t : Nat} {tx : Nat → Nat} {m : gM} (h : rP L tx a t m) (w : a < L) : rP L tx (a + 1) t (g_set m 0 (upd (m 0) 7 ((m 0 7) + (1 : Int32)))) ∧ fr5 m (g_set m 0 (upd (m 0) 7 ((m 0 7) + (1 : Int32)))) := by
  obtain ⟨p1, p2, p3, p4, p5, p6⟩ := h
  refine ⟨⟨p1, p2, ?_, by omega, p5, p6⟩, fun c h1 _ => g_set_n h1, fun f h7 _ _ => by rw [g_set_s, upd_at, if_neg h7]⟩
  show m 0 7 + 1 = _; rw [p3, e1r]
theorem takes_R {L a t sg : Nat} {tx : Nat → Nat} {m : gM} (h : rP L tx a t m) (hs : sg < 1000) : o_r_takes m (Int32.ofNat sg) ∧ ((a < L ∧ tx a = sg ∧ (f_r_takes m (Int32.ofNat sg)).1 = 1 ∧ rP L tx (a + 1) t (f_r_takes m (Int32.ofNat sg)).2 ∧ fr5 m (f_r_takes m (Int32.ofNat sg)).2 ∧ (f_r_takes m (Int32.ofNat sg)).2 5 = m 5) ∨ (¬ (a < L ∧ tx a = sg) ∧ (f_r_takes m (Int32.ofNat sg)).1 = 0 ∧ rP L tx a t (f_r_takes m (Int32.ofNat sg)).2 ∧ fr5 m (f_r_takes m (Int32.ofNat sg)).2 ∧ (f_r_takes m (Int32.ofNat sg)).2 5 = m 5)) := by
  obtain ⟨i1, i2⟩ := isAt_R h hs hs
  have n10 : ¬ ((1 : Int32) = 0) := by decide
  unfold f_r_takes o_r_takes
  simp only [g_let_def]
  by_cases w : a < L ∧ tx a = sg
  · have i3 : f_r_isAt m (Int32.ofNat sg) (Int32.ofNat sg) = 1 := by rw [i1, if_pos ⟨w.1, by omega, by omega⟩]
    obtain ⟨s1, s2⟩ := step_R h w.1
    simp only [i3, if_neg n10]
    exact ⟨⟨i2, Or.inr trivial, trivial⟩, Or.inl ⟨w.1, w.2, trivial, s1, s2, rfl⟩⟩
  · have i3 : f_r_isAt m (Int32.ofNat sg) (Int32.ofNat sg) = 0 := by rw [i1, if_neg (fun z => w ⟨z.1, by omega⟩)]
    simp only [i3, if_true]
    obtain ⟨p1, p2, p3, p4, p5, p6⟩ := h
    refine ⟨⟨i2, Or.inl trivial, trivial⟩, Or.inr ⟨w, trivial, ⟨p1, p2, ?_, p4, p5, p6⟩, ⟨fun c h1 _ => g_set_n h1, fun f h7 _ _ => by rw [g_set_s, upd_at, if_neg h7]⟩, rfl⟩⟩
    show m 0 7 + 0 = _; rw [p3]; exact Int32.add_zero _
/-! a page is taken: the part 0 from nothing, the part 1 behind the sign -/
def sg0 : Option Nat → Nat × Nat × Nat × Nat → Nat × Nat × Nat × Nat := fun v s => match v with
  | none => s
  | some v => (1, v, v, 0)
def sg1 (f : Nat) : Option Nat → Nat × Nat × Nat × Nat := fun v => match v with
  | none => (2, f, f, 0)
  | some v => (3, f, v, 0)
def vI (v : Option Nat) : Int32 := match v with
  | none => -1
  | some v => Int32.ofNat v
theorem dst_0 {f l h c : Nat} (hd : 48 ≤ c ∧ c ≤ 57) : dst 0 f l h c = some (1, c - 48, c - 48, 0) := by unfold dst; rw [if_pos hd, if_pos rfl]
theorem dst_0n {f l h c : Nat} (hd : ¬ (48 ≤ c ∧ c ≤ 57)) : dst 0 f l h c = none := by
  unfold dst; rw [if_neg hd, if_neg (show ¬ (0 = 1 ∧ f < 39) by omega), if_neg (show ¬ (0 = 1 ∨ 0 = 3 ∧ f < l) by omega), if_neg (show ¬ (0 = 1 ∨ 0 = 5 ∨ 0 = 3 ∧ f < l) by omega)]
  split
  · rfl
  · split
    · rfl
    · split <;> rfl
theorem dst_1 {f h c : Nat} (hd : 48 ≤ c ∧ c ≤ 57) : dst 1 f f h c = if 1 ≤ f ∧ f ≤ 3 then some (1, 10 * f + (c - 48), 10 * f + (c - 48), h) else none := by
  unfold dst; rw [if_pos hd, if_neg (by omega), if_pos rfl]
theorem dst_2 {f l h c : Nat} (hd : 48 ≤ c ∧ c ≤ 57) : dst 2 f l h c = if f < c - 48 ∨ (1 ≤ c - 48 ∧ c - 48 ≤ 3 ∧ f < 10 * (c - 48) + 9) then some (3, f, c - 48, h) else none := by
  unfold dst; rw [if_pos hd, if_neg (by omega), if_neg (by omega), if_pos rfl]
theorem dst_3 {f l h c : Nat} (hd : 48 ≤ c ∧ c ≤ 57) : dst 3 f l h c = if 1 ≤ l ∧ l ≤ 3 ∧ f < 10 * l + (c - 48) then some (3, f, 10 * l + (c - 48), h) else none := by
  unfold dst; rw [if_pos hd, if_neg (by omega), if_neg (by omega), if_neg (by omega), if_pos rfl]
theorem canFollow_n {d f : Nat} (m : gM) (hd : d < 10) (hf : f < 100) : f_r_canFollow m (-1 : Int32) (Int32.ofNat d) (Int32.ofNat f) = (if f < d ∨ (1 ≤ d ∧ d ≤ 3 ∧ f < 10 * d + 9) then 1 else 0) ∧ o_r_canFollow m (-1 : Int32) (Int32.ofNat d) (Int32.ofNat f) := by
  have e9 : (10 : Int32) * Int32.ofNat d + (9 : Int32) = Int32.ofNat (10 * d + 9) := by rw [show (10 : Int32) = Int32.ofNat 10 from rfl, nI_times]; exact nI_plus2 _ 9
  have n10 : ¬ ((1 : Int32) = 0) := by decide
  have hin := in_N (lo := 1) (hi := 3) (c := d) (by omega) (by omega) (by omega)
  have hin' : f_r_in (Int32.ofNat d) (1 : Int32) (3 : Int32) = if 1 ≤ d ∧ d ≤ 3 then 1 else 0 := hin
  unfold f_r_canFollow o_r_canFollow
  rw [if_pos rfl, if_pos rfl, e9, hin']
  by_cases w : f < d
  · rw [if_pos (ltL (by omega) (by omega) w), if_pos (ltL (by omega) (by omega) w), if_pos (Or.inl w)]; exact ⟨rfl, trivial⟩
  · rw [if_neg (nltL (by omega) (by omega) w), if_neg (nltL (by omega) (by omega) w)]
    by_cases v : 1 ≤ d ∧ d ≤ 3
    · rw [if_pos v, if_neg n10, if_neg n10]
      by_cases u : 10 * d + 9 ≤ f
      · rw [if_pos ((leI (by omega) (by omega)).mpr u), if_neg (by omega)]
        refine ⟨rfl, o_in _ _ _, ?_⟩
        split <;> trivial
      · rw [if_neg (fun z => u ((leI (by omega) (by omega)).mp z)), if_pos (by omega)]
        refine ⟨rfl, o_in _ _ _, ?_⟩
        split <;> trivial
    · rw [if_neg v, if_pos rfl, if_pos rfl, if_neg (by omega)]
      exact ⟨rfl, o_in _ _ _, trivial⟩
theorem canFollow_v {v d f : Nat} (m : gM) (hv : v < 100) (hd : d < 10) (hf : f < 100) : f_r_canFollow m (Int32.ofNat v) (Int32.ofNat d) (Int32.ofNat f) = (if 1 ≤ v ∧ v ≤ 3 ∧ f < 10 * v + d then 1 else 0) ∧ o_r_canFollow m (Int32.ofNat v) (Int32.ofNat d) (Int32.ofNat f) := by
  have e9 : (10 : Int32) * Int32.ofNat v + Int32.ofNat d = Int32.ofNat (10 * v + d) := by rw [show (10 : Int32) = Int32.ofNat 10 from rfl, nI_times, nI_plus2]
  have n10 : ¬ ((1 : Int32) = 0) := by decide
  have nv : ¬ (Int32.ofNat v = -1) := nI_ne1 (by omega)
  have hin := in_N (lo := 1) (hi := 3) (c := v) (by omega) (by omega) (by omega)
  have hin' : f_r_in (Int32.ofNat v) (1 : Int32) (3 : Int32) = if 1 ≤ v ∧ v ≤ 3 then 1 else 0 := hin
  unfold f_r_canFollow o_r_canFollow
  rw [if_neg nv, if_neg nv, e9, hin']
  by_cases w : 1 ≤ v ∧ v ≤ 3
  · rw [if_pos w, if_neg n10, if_neg n10]
    by_cases u : 10 * v + d ≤ f
    · rw [if_pos ((leI (by omega) (by omega)).mpr u), if_neg (by omega)]
      refine ⟨rfl, o_in _ _ _, ?_⟩
      split <;> trivial
    · rw [if_neg (fun z => u ((leI (by omega) (by omega)).mp z)), if_pos (by omega)]
      refine ⟨rfl, o_in _ _ _, ?_⟩
      split <;> trivial
  · rw [if_neg w, if_pos rfl, if_pos rfl, if_neg (by omega)]
    exact ⟨rfl, o_in _ _ _, trivial⟩
theorem m1lt (d : Nat) (hd : d < 2147483648) : (-1 : Int32) < Int32.ofNat d := by
  rw [Int32.lt_iff_toInt_lt, Int32.toInt_ofNat_of_lt (by omega)]
  have : (-1 : Int32).toInt = -1 := by decide
  omega
theorem canFollow_n0 {d : Nat} (m : gM) (hd : d < 10) : f_r_canFollow m (-1 : Int32) (Int32.ofNat d) (-1 : Int32) = 1 ∧ o_r_canFollow m (-1 : Int32) (Int32.ofNat d) (-1 : Int32) := by
  unfold f_r_canFollow o_r_canFollow
  rw [if_pos rfl, if_pos rfl, if_pos (m1lt d (by omega)), if_pos (m1lt d (by omega))]
  exact ⟨rfl, trivial⟩
theorem canFollow_v0 {v d : Nat} (m : gM) (hv : v < 100) (hd : d < 10) : f_r_canFollow m (Int32.ofNat v) (Int32.ofNat d) (-1 : Int32) = (if 1 ≤ v ∧ v ≤ 3 then 1 else 0) ∧ o_r_canFollow m (Int32.ofNat v) (Int32.ofNat d) (-1 : Int32) := by
  have e9 : (10 : Int32) * Int32.ofNat v + Int32.ofNat d = Int32.ofNat (10 * v + d) := by rw [show (10 : Int32) = Int32.ofNat 10 from rfl, nI_times, nI_plus2]
  have n10 : ¬ ((1 : Int32) = 0) := by decide
  have nv : ¬ (Int32.ofNat v = -1) := nI_ne1 (by omega)
  have hin := in_N (lo := 1) (hi := 3) (c := v) (by omega) (by omega) (by omega)
  have hin' : f_r_in (Int32.ofNat v) (1 : Int32) (3 : Int32) = if 1 ≤ v ∧ v ≤ 3 then 1 else 0 := hin
  have nle : ¬ (Int32.ofNat (10 * v + d) ≤ (-1 : Int32)) := Int32.not_le.mpr (m1lt _ (by omega))
  unfold f_r_canFollow o_r_canFollow
  rw [if_neg nv, if_neg nv, e9, hin']
  by_cases w : 1 ≤ v ∧ v ≤ 3
  · rw [if_pos w, if_neg n10, if_neg n10, if_neg nle]
    refine ⟨rfl, o_in _ _ _, ?_⟩
    split <;> trivial
  · rw [if_neg w, if_pos rfl, if_pos rfl]
    exact ⟨rfl, o_in _ _ _, trivial⟩
