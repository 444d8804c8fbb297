/-! the constructors' side conditions -/
theorem g_let_I {α : Type} {x : α} {f : α → Prop} (h : ∀ y, y = x → f y) : g_let x f := by rw [g_let_def]; exact h x rfl
theorem o_d_init_ok (m : gM) (h : gN) : o_d_init m h := by
  unfold o_d_init
  repeat first
    | exact trivial
    | refine g_let_I (fun _ _ => ?_)
    | refine ⟨?_, ?_⟩
theorem o_s_init_ok (m : gM) (h : gN) : o_s_init m h := by
  unfold o_s_init
  repeat first
    | exact trivial
    | exact (fill40_at _ _).1
    | exact (fill96_at _ _).1
    | exact (fill12_at _ _).1
    | exact (fill5_at _ _).1
    | exact (by unfold vp_in; decide)
    | refine g_let_I (fun _ _ => ?_)
    | refine ⟨?_, ?_⟩
set_option maxRecDepth 20000 in
theorem o_h_init_ok (m : gM) (h : gN) : o_h_init m h := by
  unfold o_h_init
  refine g_let_I (fun _ _ => ?_)
  refine g_let_I (fun _ _ => ?_)
  refine And.intro (o_s_init_ok _ _) ?_
  refine g_let_I (fun _ _ => ?_)
  refine g_let_I (fun _ _ => ?_)
  refine g_let_I (fun _ _ => ?_)
  refine g_let_I (fun _ _ => ?_)
  refine g_let_I (fun _ _ => ?_)
  refine And.intro (o_s_init_ok _ _) ?_
  refine g_let_I (fun _ _ => ?_)
  refine g_let_I (fun _ _ => ?_)
  refine g_let_I (fun _ _ => ?_)
  refine g_let_I (fun _ _ => ?_)
  refine g_let_I (fun _ _ => ?_)
  refine g_let_I (fun _ _ => ?_)
  refine g_let_I (fun _ _ => ?_)
  refine g_let_I (fun _ _ => ?_)
  refine And.intro (o_d_init_ok _ _) ?_
  refine g_let_I (fun _ _ => ?_)
  refine g_let_I (fun _ _ => ?_)
  refine g_let_I (fun _ _ => ?_)
  refine g_let_I (fun _ _ => ?_)
  refine g_let_I (fun _ _ => ?_)
  refine And.intro (o_s_init_ok _ _) ?_
  refine g_let_I (fun _ _ => ?_)
  refine g_let_I (fun _ _ => ?_)
  refine g_let_I (fun _ _ => ?_)
  refine g_let_I (fun _ _ => ?_)
  refine g_let_I (fun _ _ => ?_)
  refine And.intro (o_s_init_ok _ _) ?_
  refine g_let_I (fun _ _ => ?_)
  refine g_let_I (fun _ _ => ?_)
  refine g_let_I (fun _ _ => ?_)
  refine g_let_I (fun _ _ => ?_)
  refine g_let_I (fun _ _ => ?_)
  refine And.intro (o_s_init_ok _ _) ?_
  refine g_let_I (fun _ _ => ?_)
  refine g_let_I (fun _ _ => ?_)
  refine g_let_I (fun _ _ => ?_)
  refine g_let_I (fun _ _ => ?_)
  refine g_let_I (fun _ _ => ?_)
  refine And.intro (o_s_init_ok _ _) ?_
  refine g_let_I (fun _ _ => ?_)
  refine g_let_I (fun _ _ => ?_)
  refine g_let_I (fun _ _ => ?_)
  refine g_let_I (fun _ _ => ?_)
  refine g_let_I (fun _ _ => ?_)
  refine And.intro (o_s_init_ok _ _) ?_
  refine g_let_I (fun _ _ => ?_)
  refine g_let_I (fun _ _ => ?_)
  refine g_let_I (fun _ _ => ?_)
  refine g_let_I (fun _ _ => ?_)
  refine g_let_I (fun _ _ => ?_)
  refine And.intro (o_s_init_ok _ _) ?_
  refine g_let_I (fun _ _ => ?_)
  refine g_let_I (fun _ _ => ?_)
  refine g_let_I (fun _ _ => ?_)
  exact trivial
theorem lit_plus (k n : Nat) : Int32.ofNat k + Int32.ofNat n = Int32.ofNat (k + n) := nI_plus2 k n
theorem r49_ok (h : gN) (m : gM) : rOk (L_r_init_49 h) (K_r_init_49 h) 400 ((0 : Int32), m) := by
  refine (run_count (N := 96) (fun n z => z.1 = Int32.ofNat n) (fun _ => True) (by decide) rfl (fun n z hn hz => ?_) (fun z hz => ?_)).1
  · have hlt : ¬ ((96 : Int32) ≤ z.1) := fun h => by rw [hz] at h; exact absurd ((lit_le (c := 96) (by omega) (by omega)).mp h) (by omega)
    unfold K_r_init_49 L_r_init_49
    simp only [g_let_def, if_neg hlt]
    refine ⟨⟨?_, trivial⟩, trivial, ?_⟩
    · rw [hz]; exact vp_in_nI (by omega) (by omega)
    · rw [hz]; exact nI_plus2 n 1
  · have hle : (96 : Int32) ≤ z.1 := by rw [hz]; decide
    unfold K_r_init_49 L_r_init_49
    simp only [if_pos hle]
    exact ⟨trivial, trivial, trivial⟩
theorem r70_ok (h : gN) (m : gM) : rOk (L_r_init_70 h) (K_r_init_70 h) 400 ((0 : Int32), m) := by
  refine (run_count (N := 12) (fun n z => z.1 = Int32.ofNat n) (fun _ => True) (by decide) rfl (fun n z hn hz => ?_) (fun z hz => ?_)).1
  · have hlt : ¬ ((12 : Int32) ≤ z.1) := fun h => by rw [hz] at h; exact absurd ((lit_le (c := 12) (by omega) (by omega)).mp h) (by omega)
    unfold K_r_init_70 L_r_init_70
    simp only [g_let_def, if_neg hlt]
    refine ⟨⟨?_, trivial⟩, trivial, ?_⟩
    · rw [hz, show (108 : Int32) = Int32.ofNat 108 from rfl, lit_plus]; exact vp_in_nI (by omega) (by omega)
    · rw [hz]; exact nI_plus2 n 1
  · have hle : (12 : Int32) ≤ z.1 := by rw [hz]; decide
    unfold K_r_init_70 L_r_init_70
    simp only [if_pos hle]
    exact ⟨trivial, trivial, trivial⟩
theorem r94_ok (h : gN) (m : gM) : rOk (L_r_init_94 h) (K_r_init_94 h) 400 ((0 : Int32), m) := by
  refine (run_count (N := 40) (fun n z => z.1 = Int32.ofNat n) (fun _ => True) (by decide) rfl (fun n z hn hz => ?_) (fun z hz => ?_)).1
  · have hlt : ¬ ((40 : Int32) ≤ z.1) := fun h => by rw [hz] at h; exact absurd ((lit_le (c := 40) (by omega) (by omega)).mp h) (by omega)
    unfold K_r_init_94 L_r_init_94
    simp only [g_let_def, if_neg hlt]
    refine ⟨⟨?_, ?_, trivial⟩, trivial, ?_⟩
    · rw [hz, show (0 : Int32) = Int32.ofNat 0 from rfl, ix_of]; exact vp_in_nI (by omega) (by omega)
    · rw [hz, show (1 : Int32) = Int32.ofNat 1 from rfl, ix_of]; exact vp_in_nI (by omega) (by omega)
    · rw [hz]; exact nI_plus2 n 1
  · have hle : (40 : Int32) ≤ z.1 := by rw [hz]; decide
    unfold K_r_init_94 L_r_init_94
    simp only [if_pos hle]
    exact ⟨trivial, trivial, trivial⟩
theorem r138_ok (h : gN) (m : gM) : rOk (L_r_init_138 h) (K_r_init_138 h) 400 ((0 : Int32), m) := by
  refine (run_count (N := 5) (fun n z => z.1 = Int32.ofNat n) (fun _ => True) (by decide) rfl (fun n z hn hz => ?_) (fun z hz => ?_)).1
  · have hlt : ¬ ((5 : Int32) ≤ z.1) := fun h => by rw [hz] at h; exact absurd ((lit_le (c := 5) (by omega) (by omega)).mp h) (by omega)
    unfold K_r_init_138 L_r_init_138
    simp only [g_let_def, if_neg hlt]
    refine ⟨⟨?_, trivial⟩, trivial, ?_⟩
    · rw [hz, show (344 : Int32) = Int32.ofNat 344 from rfl, show (2 : Int32) = Int32.ofNat 2 from rfl, nI_times, lit_plus]; exact vp_in_nI (by omega) (by omega)
    · rw [hz]; exact nI_plus2 n 1
  · have hle : (5 : Int32) ≤ z.1 := by rw [hz]; decide
    unfold K_r_init_138 L_r_init_138
    simp only [if_pos hle]
    exact ⟨trivial, trivial, trivial⟩
set_option maxRecDepth 20000 in
theorem o_r_init_ok (m : gM) (h : gN) : o_r_init m h := by
  unfold o_r_init
  refine g_let_I (fun _ _ => ?_)
  refine g_let_I (fun _ _ => ?_)
  refine g_let_I (fun _ _ => ?_)
  refine g_let_I (fun _ _ => ?_)
  refine g_let_I (fun _ _ => ?_)
  refine And.intro (r49_ok _ _) ?_
  refine g_let_I (fun _ _ => ?_)
  refine And.intro (r70_ok _ _) ?_
  refine g_let_I (fun _ _ => ?_)
  refine And.intro (r94_ok _ _) ?_
  refine g_let_I (fun _ _ => ?_)
  refine And.intro (r138_ok _ _) ?_
  refine g_let_I (fun _ _ => ?_)
  refine g_let_I (fun _ _ => ?_)
  exact trivial
