/-! the constructors' side conditions -/
theorem g_let_I {α : Type} {x : α} {f : α → Prop} (h : ∀ y, y = x → f y) : g_let x f := by rw [g_let_def]; exact h x rfl
theorem o_d_init_ok (m : gM) (h : gN) : o_d_init m h := by
  unfold o_d_init
  repeat first
    | exact trivial
    | refine g_let_I (fun _ _ => ?_)
    | refine ⟨?_, ?_⟩
theorem o_s_init_ok (m : gM) (h : gN) : o_s_init m h := by
  unfold o_s_init
  repeat first
    | exact trivial
    | exact (fill40_at _ _).1
    | exact (fill96_at _ _).1
    | exact (fill12_at _ _).1
    | exact (fill5_at _ _).1
    | exact (by unfold vp_in; decide)
    | refine g_let_I (fun _ _ => ?_)
    | refine ⟨?_, ?_⟩
set_option maxRecDepth 20000 in
theorem o_h_init_ok (m : gM) (h : gN) : o_h_init m h := by
  unfold o_h_init
  refine g_let_I (fun _ _ => ?_)
  refine g_let_I (fun _ _ => ?_)
  refine And.intro (o_s_init_ok _ _) ?_
  refine g_let_I (fun _ _ => ?_)
  refine g_let_I (fun _ _ => ?_)
  refine g_let_I (fun _ _ => ?_)
  refine g_let_I (fun _ _ => ?_)
  refine g_let_I (fun _ _ => ?_)
  refine And.intro (o_s_init_ok _ _) ?_
  refine g_let_I (fun _ _ => ?_)
  refine g_let_I (fun _ _ => ?_)
  refine g_let_I (fun _ _ => ?_)
  refine g_let_I (fun _ _ => ?_)
  refine g_let_I (fun _ _ => ?_)
  refine g_let_I (fun _ _ => ?_)
  refine g_let_I (fun _ _ => ?_)
  refine g_let_I (fun _ _ => ?_)
  refine And.intro (o_d_init_ok _ _) ?_
  refine g_let_I (fun _ _ => ?_)
  refine g_let_I (fun _ _ => ?_)
  refine g_let_I (fun _ _ => ?_)
  refine g_let_I (fun _ _ => ?_)
  refine g_let_I (fun _ _ => ?_)
  refine And.intro (o_s_init_ok _ _) ?_
  refine g_let_I (fun _ _ => ?_)
  refine g_let_I (fun _ _ => ?_)
  refine g_let_I (fun _ _ => ?_)
  refine g_let_I (fun _ _ => ?_)
  refine g_let_I (fun _ _ => ?_)
  refine And.intro (o_s_init_ok _ _) ?_
  refine g_let_I (fun _ _ => ?_)
  refine g_let_I (fun _ _ => ?_)
  refine g_let_I (fun _ _ => ?_)
  refine g_let_I (fun _ _ => ?_)
  refine g_let_I (fun _ _ => ?_)
  refine And.intro (o_s_init_ok _ _) ?_
  refine g_let_I (fun _ _ => ?_)
  refine g_let_I (fun _ _ => ?_)
  refine g_let_I (fun _ _ => ?_)
  refine g_let_I (fun _ _ => ?_)
  refine g_let_I (fun _ _ => ?_)
  refine And.intro (o_s_init_ok _ _) ?_
  refine g_let_I (fun _ _ => ?_)
  refine g_let_I (fun _ _ => ?_)
  refine g_let_I (fun _ _ => ?_)
  refine g_let_I (fun _ _ => ?_)
  refine g_let_I (fun _ _ => ?_)
  refine And.intro (o_s_init_ok _ _) ?_
  refine g_let_I (fun _ _ => ?_)
  refine g_let_I (fun _ _ => ?_)
  refine g_let_I (fun _ _ => ?_)
  refine g_let_I (fun _ _ => ?_)
  refine g_let_I (fun _ _ => ?_)
  refine And.intro (o_s_init_ok _ _) ?_
  refine g_let_I (fun _ _ => ?_)
  refine g_let_I (fun _ _ => ?_)
  refine g_let_I (fun _ _ => ?_)
  exact trivial
