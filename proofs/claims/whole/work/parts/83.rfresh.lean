/-! the reference's fresh row -/
theorem r49_at (h : gN) (m : gM) : ∀ a j, (run (L_r_init_49 h) 400 ((0 : Int32), m)).2 a j = if a = 1 ∧ j < 96 then (-1 : Int32) else m a j := by
  refine (run_count (f := L_r_init_49 h) (K := fun _ => True) (fuel := 400) (z := ((0 : Int32), m)) (N := 96) (fun n z => z.1 = Int32.ofNat n ∧ ∀ a j, z.2 a j = if a = 1 ∧ j < n then (-1 : Int32) else m a j) (fun z => ∀ a j, z.2 a j = if a = 1 ∧ j < 96 then (-1 : Int32) else m a j) (by decide) ⟨rfl, fun a j => by rw [if_neg (by omega)]⟩ (fun n z hn hz => ?_) (fun z hz => ?_)).2
  · obtain ⟨i, z⟩ := z
    obtain ⟨h1, h2⟩ := hz
    dsimp only at h1 h2
    subst h1
    have hlt : ¬ ((96 : Int32) ≤ Int32.ofNat n) := fun h => absurd ((lit_le (c := 96) (by omega) (by omega)).mp h) (by omega)
    unfold L_r_init_49
    simp only [g_let_def, if_neg hlt]
    refine ⟨trivial, trivial, nI_plus2 n 1, fun a j => ?_⟩
    rw [nI_ix (by omega)]
    by_cases ha : a = 1
    · subst ha
      rw [g_set_at, if_pos rfl, upd_at, h2]
      split <;> split <;> (try split) <;> first | rfl | (exfalso; omega)
    · rw [g_set_at, if_neg ha, h2]
      split <;> split <;> first | rfl | (exfalso; omega)
  · obtain ⟨i, z⟩ := z
    obtain ⟨h1, h2⟩ := hz
    dsimp only at h1 h2
    subst h1
    have hle : (96 : Int32) ≤ Int32.ofNat 96 := by decide
    unfold L_r_init_49
    simp only [if_pos hle]
    exact ⟨trivial, trivial, h2⟩
theorem r70_at (h : gN) (m : gM) : ∀ a j, (run (L_r_init_70 h) 400 ((0 : Int32), m)).2 a j = if a = 1 ∧ 108 ≤ j ∧ j < 120 then (-1 : Int32) else m a j := by
  refine (run_count (f := L_r_init_70 h) (K := fun _ => True) (fuel := 400) (z := ((0 : Int32), m)) (N := 12) (fun n z => z.1 = Int32.ofNat n ∧ ∀ a j, z.2 a j = if a = 1 ∧ 108 ≤ j ∧ j < 108 + n then (-1 : Int32) else m a j) (fun z => ∀ a j, z.2 a j = if a = 1 ∧ 108 ≤ j ∧ j < 120 then (-1 : Int32) else m a j) (by decide) ⟨rfl, fun a j => by rw [if_neg (by omega)]⟩ (fun n z hn hz => ?_) (fun z hz => ?_)).2
  · obtain ⟨i, z⟩ := z
    obtain ⟨h1, h2⟩ := hz
    dsimp only at h1 h2
    subst h1
    have hlt : ¬ ((12 : Int32) ≤ Int32.ofNat n) := fun h => absurd ((lit_le (c := 12) (by omega) (by omega)).mp h) (by omega)
    unfold L_r_init_70
    simp only [g_let_def, if_neg hlt]
    refine ⟨trivial, trivial, nI_plus2 n 1, fun a j => ?_⟩
    rw [show (108 : Int32) = Int32.ofNat 108 from rfl, lit_plus, nI_ix (by omega)]
    by_cases ha : a = 1
    · subst ha
      rw [g_set_at, if_pos rfl, upd_at, h2]
      split <;> split <;> (try split) <;> first | rfl | (exfalso; omega)
    · rw [g_set_at, if_neg ha, h2]
      split <;> split <;> first | rfl | (exfalso; omega)
  · obtain ⟨i, z⟩ := z
    obtain ⟨h1, h2⟩ := hz
    dsimp only at h1 h2
    subst h1
    have hle : (12 : Int32) ≤ Int32.ofNat 12 := by decide
    unfold L_r_init_70
    simp only [if_pos hle]
    exact ⟨trivial, trivial, h2⟩
