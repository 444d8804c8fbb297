def shM : List gC := [.inr (.inl (3, [.inl 1, .inl 2, .inl 3, .inr (some false), .inl 4, .inr (some false), .inr (some false), .inr (some false), .inr (some false), .inl 5, .inr (some false), .inr (some true)])), .inl 364, .inl 364, .inl 2184, .inl 60, .inl 96]
set_option maxRecDepth 20000 in
theorem in_X3_thrown_3 : ∀ w ∈ u_ws RX3 TX3 12, w ∈ wsX3_thrown := by decide +kernel
set_option maxRecDepth 20000 in
theorem k_X3_thrown_25 : Cond.fieldLink RX3 25 "HintedPagesModel" "thrown" "I" ∈ wsX3_thrown := by decide +kernel
abbrev rm_r_thrown : Room := { frames := 0, cells := 0, slots := 0, locals := 0 }
noncomputable def f_r_thrown (m : gM) : Int32 := (m 0 6)
noncomputable def o_r_thrown (m : gM) : Prop := True
set_option maxRecDepth 100000 in
set_option maxHeartbeats 4000000 in
theorem c_r_thrown (l : Launch) (G : gG) (q : Nat → Nat) (m : gM) (h : gN) (hok : o_r_thrown m) : gMi l yX3_thrown wsX3_thrown rm_r_thrown G shM q m h [.ref (q 0)] m h (f_r_thrown m) := by
  intro sz
  refine g_met (cc := cX3_thrown) (maxL := 1) (ret := (some .int)) (own := RX3) (Qc := fun sz => gQi G shM q m h sz (f_r_thrown m)) (by decide) rfl rfl (Nat.le_of_ble_eq_true rfl) (fun p e s m9 below meth c C hq hr => ?_)
  refine x_lv (lv' := [(0, .ref (q 0))]) [0] rfl ?_
  have hf := f_r_thrown.eq_1 m
  have hok := Eq.mp (o_r_thrown.eq_1 m) hok
  refine x_aload_n C dX3_thrown_0 rfl 0 rfl ?_
  refine x_get (v := .int (m 0 6)) C in_X3_thrown_3 0 rfl rfl 6 (by decide) k_X3_thrown_25 rfl rfl dX3_thrown_1 ?_
  exact g_iret C hr rfl dX3_thrown_4 hf.symm rfl rfl
set_option maxRecDepth 20000 in
theorem in_X3_fails_3 : ∀ w ∈ u_ws RX3 TX3 12, w ∈ wsX3_fails := by decide +kernel
set_option maxRecDepth 20000 in
theorem k_X3_fails_25 : Cond.fieldLink RX3 25 "HintedPagesModel" "thrown" "I" ∈ wsX3_fails := by decide +kernel
abbrev rm_r_fails : Room := { frames := 0, cells := 0, slots := 0, locals := 0 }
noncomputable def f_r_fails (m : gM) (a1 : Int32) : Int32 × gM := g_let (g_set m 0 (upd (m 0) 6 a1)) (fun z1 : gM => ((0 : Int32), z1))
noncomputable def o_r_fails (m : gM) (a1 : Int32) : Prop := g_let (g_set m 0 (upd (m 0) 6 a1)) (fun z1 : gM => True)
set_option maxRecDepth 100000 in
set_option maxHeartbeats 4000000 in
theorem c_r_fails (l : Launch) (G : gG) (q : Nat → Nat) (m : gM) (h : gN) (a1 : Int32) (hok : o_r_fails m a1) : gMi l yX3_fails wsX3_fails rm_r_fails G shM q m h [.ref (q 0), .int a1] ((f_r_fails m a1).2) h ((f_r_fails m a1).1) := by
  intro sz
  refine g_met (cc := cX3_fails) (maxL := 2) (ret := (some .int)) (own := RX3) (Qc := fun sz => gQi G shM q ((f_r_fails m a1).2) h sz ((f_r_fails m a1).1)) (by decide) rfl rfl (Nat.le_of_ble_eq_true rfl) (fun p e s m9 below meth c C hq hr => ?_)
  refine x_lv (lv' := [(0, .ref (q 0)), (1, .int a1)]) [0, 1] rfl ?_
  have hf := f_r_fails.eq_1 m a1
  have hok := Eq.mp (o_r_fails.eq_1 m a1) hok
  refine x_aload_n C dX3_fails_0 rfl 0 rfl ?_
  refine x_iload_n C dX3_fails_1 rfl 1 rfl ?_
  obtain ⟨z1, hz1⟩ : ∃ y9 : gM, y9 = g_set m 0 (upd (m 0) 6 a1) := ⟨_, rfl⟩
  have hf := hf.trans (g_let_eq hz1)
  have hok := g_let_p hz1 hok
  refine x_puti (μ' := z1) (ty := .int) C hq tyX3 tyX3_ok nmX3 in_X3_fails_3 0 rfl rfl 6 (by decide) k_X3_fails_25 rfl (tyX3_ok 6 (by decide)) rfl rfl rfl hz1 dX3_fails_2 ?_
  refine x_iconst (v := (0 : Int32)) C dX3_fails_5 (by decide) ?_
  exact g_iret C hr rfl dX3_fails_6 (congrArg (fun z => z.1) hf).symm (congrArg (fun z => z.2) hf).symm rfl
set_option maxRecDepth 20000 in
theorem gs_M_l1_1_3 : gSub shM shl1 [1, 3] := ⟨by decide, rfl⟩
set_option maxRecDepth 20000 in
theorem in_X3_saves_3 : ∀ w ∈ u_ws RX3 TX3 12, w ∈ wsX3_saves := by decide +kernel
set_option maxRecDepth 20000 in
theorem k_X3_saves_16 : Cond.fieldLink RX3 16 "HintedPagesModel" "past" "[I" ∈ wsX3_saves := by decide +kernel
set_option maxRecDepth 20000 in
theorem k_X3_saves_33 : Cond.fieldLink RX3 33 "HintedPagesModel" "kept" "I" ∈ wsX3_saves := by decide +kernel
set_option maxRecDepth 20000 in
theorem k_X3_saves_7 : Cond.fieldLink RX3 7 "HintedPagesModel" "now" "[I" ∈ wsX3_saves := by decide +kernel
abbrev rm_r_saves : Room := { frames := 1, cells := 0, slots := 0, locals := 24 }
noncomputable def L_r_saves_11  (z : Int32 × gM) : Bool × (Int32 × gM) := (if (1820 : Int32) ≤ z.1 then (false, (z.1, z.2)) else g_let (g_set z.2 3 (upd (z.2 3) z.1.toNatClampNeg (z.2 3 (z.1 + (364 : Int32)).toNatClampNeg))) (fun z4 : gM => g_let ((z.1 + (1 : Int32))) (fun z5 : Int32 => (true, (z5, z4)))))
noncomputable def K_r_saves_11  (z : Int32 × gM) : Prop := (if (1820 : Int32) ≤ z.1 then True else (vp_in (z.1 + (364 : Int32)) 2184) ∧ ((vp_in z.1 2184) ∧ (g_let (g_set z.2 3 (upd (z.2 3) z.1.toNatClampNeg (z.2 3 (z.1 + (364 : Int32)).toNatClampNeg))) (fun z4 : gM => g_let ((z.1 + (1 : Int32))) (fun z5 : Int32 => True)))))
set_option maxRecDepth 100000 in
set_option maxHeartbeats 4000000 in
theorem lp_r_saves_11 {p : Program} {l : Launch} {e : Env} {s : State} {m9 : MethodId} {args : Array Value} {below : List Frame} {meth : Method} {c : Code} {G : gG} {A : Nat → Prop} {Q : State → Prop} {q : Nat → Nat} (C : xC p s m9 args meth c G A 2 cX3_saves RX3 wsX3_saves) (hq : gD A q shM.length) (h : gN) : ∀ (n : Nat) (z : Int32 × gM), rOk L_r_saves_11 K_r_saves_11 n z → (∀ z' : Int32 × gM, run L_r_saves_11 n z = z' → xJ p l e rm_r_saves s m9 args below meth c G A 2 Q 0 0 shM q z'.2 h [(0, .ref (q 0)), (1, .int z'.1)] [] 40) → xJ p l e rm_r_saves s m9 args below meth c G A 2 Q 0 0 shM q z.2 h [(0, .ref (q 0)), (1, .int z.1)] [] 11 := by
  intro n
  induction n with
  | zero =>
    intro z hok _
    exact rOk_0 hok
  | succ n ih =>
    intro z hok K0
    have hnx := rOk_2 hok
    have hok := rOk_1 hok
    have hf := L_r_saves_11.eq_1 z
    have hok := Eq.mp (K_r_saves_11.eq_1 z) hok
    refine x_iload_n C dX3_saves_11 rfl 1 rfl ?_
    refine x_sipush (v := (1820 : Int32)) C dX3_saves_12 (by decide) ?_
    refine x_icmp_ge (tgt := 40) C dX3_saves_15 (by decide) (fun c1 => ?_) (fun c1 => ?_)
    · have hf := hf.trans (if_pos c1)
      have hok := g_ip c1 hok
      exact K0 ((z.1, z.2)) (run_f hf)
    · have hf := hf.trans (if_neg c1)
      have hok := g_in c1 hok
      refine x_aload_n C dX3_saves_18 rfl 0 rfl ?_
      refine x_get (v := .ref (q 3)) C in_X3_saves_3 0 rfl rfl 2 (by decide) k_X3_saves_16 rfl rfl dX3_saves_19 ?_
      refine x_iload_n C dX3_saves_22 rfl 1 rfl ?_
      refine x_aload_n C dX3_saves_23 rfl 0 rfl ?_
      refine x_get (v := .ref (q 3)) C in_X3_saves_3 0 rfl rfl 2 (by decide) k_X3_saves_16 rfl rfl dX3_saves_24 ?_
      refine x_iload_n C dX3_saves_27 rfl 1 rfl ?_
      refine x_sipush (v := (364 : Int32)) C dX3_saves_28 (by decide) ?_
      refine x_iadd C dX3_saves_31 ?_
      have s2 := And.left hok
      have hok := And.right hok
      refine x_iald (n := 2184) (v := (z.2 3 (z.1 + (364 : Int32)).toNatClampNeg)) C 3 rfl s2 rfl dX3_saves_32 ?_
      have s3 := And.left hok
      have hok := And.right hok
      obtain ⟨z4, hz4⟩ : ∃ y9 : gM, y9 = g_set z.2 3 (upd (z.2 3) z.1.toNatClampNeg (z.2 3 (z.1 + (364 : Int32)).toNatClampNeg)) := ⟨_, rfl⟩
      have hf := hf.trans (g_let_eq hz4)
      have hok := g_let_p hz4 hok
      refine x_iast (μ' := z4) (n := 2184) C hq 3 rfl s3 hz4 dX3_saves_33 ?_
      obtain ⟨z5, hz5⟩ : ∃ y9 : Int32, y9 = (z.1 + (1 : Int32)) := ⟨_, rfl⟩
      have hf := hf.trans (g_let_eq hz5)
      have hok := g_let_p hz5 hok
      refine x_iinc (v := z5) (lv' := [(0, .ref (q 0)), (1, .int z5)]) C dX3_saves_34 1 rfl hz5.symm (by decide) [1, 0] rfl ?_
      refine x_goto (tgt := 11) C dX3_saves_37 (by decide) ?_
      exact ih ((z5, z4)) (rOk_t hnx hf) (fun z' hz => K0 z' ((run_t hf).trans hz))
noncomputable def f_r_saves (m : gM) : gM := (if (m 0 3) = (6 : Int32) then g_let (run (L_r_saves_11) 2000 (((0 : Int32), m))) (fun z7 : Int32 × gM => g_let (g_set z7.2 0 (upd (z7.2 0) 3 ((z7.2 0 3) - (1 : Int32)))) (fun z8 : gM => g_let (f_r_lays1 (g_sel [1, 3] z8) (0 : Int32) ((364 : Int32) * (z8 0 3))) (fun z10 : gM => g_let (g_mrg [1, 3] z8 z10) (fun z11 : gM => g_let (g_set z11 0 (upd (z11 0) 3 ((z11 0 3) + (1 : Int32)))) (fun z12 : gM => z12))))) else g_let (f_r_lays1 (g_sel [1, 3] m) (0 : Int32) ((364 : Int32) * (m 0 3))) (fun z3 : gM => g_let (g_mrg [1, 3] m z3) (fun z4 : gM => g_let (g_set z4 0 (upd (z4 0) 3 ((z4 0 3) + (1 : Int32)))) (fun z5 : gM => z5))))
noncomputable def o_r_saves (m : gM) : Prop := (if (m 0 3) = (6 : Int32) then (rOk (L_r_saves_11) (K_r_saves_11) 2000 (((0 : Int32), m))) ∧ (g_let (run (L_r_saves_11) 2000 (((0 : Int32), m))) (fun z7 : Int32 × gM => g_let (g_set z7.2 0 (upd (z7.2 0) 3 ((z7.2 0 3) - (1 : Int32)))) (fun z8 : gM => (o_r_lays1 (g_sel [1, 3] z8) (0 : Int32) ((364 : Int32) * (z8 0 3))) ∧ (g_let (f_r_lays1 (g_sel [1, 3] z8) (0 : Int32) ((364 : Int32) * (z8 0 3))) (fun z10 : gM => g_let (g_mrg [1, 3] z8 z10) (fun z11 : gM => g_let (g_set z11 0 (upd (z11 0) 3 ((z11 0 3) + (1 : Int32)))) (fun z12 : gM => True))))))) else (o_r_lays1 (g_sel [1, 3] m) (0 : Int32) ((364 : Int32) * (m 0 3))) ∧ (g_let (f_r_lays1 (g_sel [1, 3] m) (0 : Int32) ((364 : Int32) * (m 0 3))) (fun z3 : gM => g_let (g_mrg [1, 3] m z3) (fun z4 : gM => g_let (g_set z4 0 (upd (z4 0) 3 ((z4 0 3) + (1 : Int32)))) (fun z5 : gM => True)))))
set_option maxRecDepth 100000 in
set_option maxHeartbeats 4000000 in
theorem c_r_saves (l : Launch) (G : gG) (q : Nat → Nat) (m : gM) (h : gN) (hok : o_r_saves m) : gMv l yX3_saves wsX3_saves rm_r_saves G shM q m h [.ref (q 0)] (f_r_saves m) h := by
  intro sz
  refine g_met (cc := cX3_saves) (maxL := 2) (ret := none) (own := RX3) (Qc := fun sz => gQv G shM q (f_r_saves m) h sz) (by decide) rfl rfl (Nat.le_of_ble_eq_true rfl) (fun p e s m9 below meth c C hq hr => ?_)
  refine x_lv (lv' := [(0, .ref (q 0))]) [0] rfl ?_
  have hf := f_r_saves.eq_1 m
  have hok := Eq.mp (o_r_saves.eq_1 m) hok
  refine x_aload_n C dX3_saves_0 rfl 0 rfl ?_
  refine x_get (v := .int (m 0 3)) C in_X3_saves_3 0 rfl rfl 3 (by decide) k_X3_saves_33 rfl rfl dX3_saves_1 ?_
  refine x_bipush (v := (6 : Int32)) C dX3_saves_4 (by decide) ?_
  refine x_icmp_ne (tgt := 50) C dX3_saves_6 (by decide) (fun c1 => ?_) (fun c1 => ?_)
  · have hf := hf.trans (if_neg c1)
    have hok := g_in c1 hok
    refine x_aload_n C dX3_saves_50 rfl 0 rfl ?_
    refine x_get (v := .ref (q 1)) C in_X3_saves_3 0 rfl rfl 0 (by decide) k_X3_saves_7 rfl rfl dX3_saves_51 ?_
    refine x_iconst (v := (0 : Int32)) C dX3_saves_54 (by decide) ?_
    refine x_aload_n C dX3_saves_55 rfl 0 rfl ?_
    refine x_get (v := .ref (q 3)) C in_X3_saves_3 0 rfl rfl 2 (by decide) k_X3_saves_16 rfl rfl dX3_saves_56 ?_
    refine x_sipush (v := (364 : Int32)) C dX3_saves_59 (by decide) ?_
    refine x_aload_n C dX3_saves_62 rfl 0 rfl ?_
    refine x_get (v := .int (m 0 3)) C in_X3_saves_3 0 rfl rfl 3 (by decide) k_X3_saves_33 rfl rfl dX3_saves_63 ?_
    refine x_imul C dX3_saves_66 ?_
    have s2 := And.left hok
    have hok := And.right hok
    obtain ⟨z3, hz3⟩ : ∃ y9 : gM, y9 = f_r_lays1 (g_sel [1, 3] m) (0 : Int32) ((364 : Int32) * (m 0 3)) := ⟨_, rfl⟩
    have hf := hf.trans (g_let_eq hz3)
    have hok := g_let_p hz3 hok
    have hmz3 : gMv l yX3_lays wsX3_lays rm_r_lays1 G shl1 (g_sel [1, 3] q) (g_sel [1, 3] m) (g_sel [1, 3] h) [.ref ((g_sel [1, 3] q) 0), .int (0 : Int32), .ref ((g_sel [1, 3] q) 1), .int ((364 : Int32) * (m 0 3))] z3 (g_sel [1, 3] h) := by rw [hz3]; exact c_r_lays1 l G (g_sel [1, 3] q) (g_sel [1, 3] m) (g_sel [1, 3] h) (0 : Int32) ((364 : Int32) * (m 0 3)) s2
    refine x_callSv (n := 4) C hq (gFr_sub gs_M_l1_1_3) (hmz3) (va_cwS 4 C.2.2.2.2.2.1 gX3_saves_X3_lays rfl rfl rfl (by decide +kernel) ⟨Nat.le_of_ble_eq_true rfl, Nat.le_of_ble_eq_true rfl⟩) rfl rfl (Nat.le_of_ble_eq_true rfl) dX3_saves_67 (Nat.zero_le _) (Nat.zero_le _) ?_
    obtain ⟨z4, hz4⟩ : ∃ y9 : gM, y9 = g_mrg [1, 3] m z3 := ⟨_, rfl⟩
    have hf := hf.trans (g_let_eq hz4)
    have hok := g_let_p hz4 hok
    refine x_mu hz4 (g_mrg_id gs_M_l1_1_3.1) ?_
    refine x_aload_n C dX3_saves_70 rfl 0 rfl ?_
    refine x_dup C dX3_saves_71 rfl ?_
    refine x_get (v := .int (z4 0 3)) C in_X3_saves_3 0 rfl rfl 3 (by decide) k_X3_saves_33 rfl rfl dX3_saves_72 ?_
    refine x_iconst (v := (1 : Int32)) C dX3_saves_75 (by decide) ?_
    refine x_iadd C dX3_saves_76 ?_
    obtain ⟨z5, hz5⟩ : ∃ y9 : gM, y9 = g_set z4 0 (upd (z4 0) 3 ((z4 0 3) + (1 : Int32))) := ⟨_, rfl⟩
    have hf := hf.trans (g_let_eq hz5)
    have hok := g_let_p hz5 hok
    refine x_puti (μ' := z5) (ty := .int) C hq tyX3 tyX3_ok nmX3 in_X3_saves_3 0 rfl rfl 3 (by decide) k_X3_saves_33 rfl (tyX3_ok 3 (by decide)) rfl rfl rfl hz5 dX3_saves_77 ?_
    exact g_vret C hr dX3_saves_80 hf.symm rfl
  · have hf := hf.trans (if_pos c1)
    have hok := g_ip c1 hok
    refine x_iconst (v := (0 : Int32)) C dX3_saves_9 (by decide) ?_
    refine x_istore_n (lv' := [(0, .ref (q 0)), (1, .int (0 : Int32))]) C dX3_saves_10 rfl (by decide) [1, 0] rfl ?_
    have s6 := And.left hok
    have hok := And.right hok
    refine lp_r_saves_11 C hq h 2000 (((0 : Int32), m)) s6 (fun z7 hz7 => ?_)
    have hf := hf.trans (g_let_eq hz7.symm)
    have hok := g_let_p hz7.symm hok
    refine x_aload_n C dX3_saves_40 rfl 0 rfl ?_
    refine x_dup C dX3_saves_41 rfl ?_
    refine x_get (v := .int (z7.2 0 3)) C in_X3_saves_3 0 rfl rfl 3 (by decide) k_X3_saves_33 rfl rfl dX3_saves_42 ?_
    refine x_iconst (v := (1 : Int32)) C dX3_saves_45 (by decide) ?_
    refine x_isub C dX3_saves_46 ?_
    obtain ⟨z8, hz8⟩ : ∃ y9 : gM, y9 = g_set z7.2 0 (upd (z7.2 0) 3 ((z7.2 0 3) - (1 : Int32))) := ⟨_, rfl⟩
    have hf := hf.trans (g_let_eq hz8)
    have hok := g_let_p hz8 hok
    refine x_puti (μ' := z8) (ty := .int) C hq tyX3 tyX3_ok nmX3 in_X3_saves_3 0 rfl rfl 3 (by decide) k_X3_saves_33 rfl (tyX3_ok 3 (by decide)) rfl rfl rfl hz8 dX3_saves_47 ?_
    refine x_aload_n C dX3_saves_50 rfl 0 rfl ?_
    refine x_get (v := .ref (q 1)) C in_X3_saves_3 0 rfl rfl 0 (by decide) k_X3_saves_7 rfl rfl dX3_saves_51 ?_
    refine x_iconst (v := (0 : Int32)) C dX3_saves_54 (by decide) ?_
    refine x_aload_n C dX3_saves_55 rfl 0 rfl ?_
    refine x_get (v := .ref (q 3)) C in_X3_saves_3 0 rfl rfl 2 (by decide) k_X3_saves_16 rfl rfl dX3_saves_56 ?_
    refine x_sipush (v := (364 : Int32)) C dX3_saves_59 (by decide) ?_
    refine x_aload_n C dX3_saves_62 rfl 0 rfl ?_
    refine x_get (v := .int (z8 0 3)) C in_X3_saves_3 0 rfl rfl 3 (by decide) k_X3_saves_33 rfl rfl dX3_saves_63 ?_
    refine x_imul C dX3_saves_66 ?_
    have s9 := And.left hok
    have hok := And.right hok
    obtain ⟨z10, hz10⟩ : ∃ y9 : gM, y9 = f_r_lays1 (g_sel [1, 3] z8) (0 : Int32) ((364 : Int32) * (z8 0 3)) := ⟨_, rfl⟩
    have hf := hf.trans (g_let_eq hz10)
    have hok := g_let_p hz10 hok
    have hmz10 : gMv l yX3_lays wsX3_lays rm_r_lays1 G shl1 (g_sel [1, 3] q) (g_sel [1, 3] z8) (g_sel [1, 3] h) [.ref ((g_sel [1, 3] q) 0), .int (0 : Int32), .ref ((g_sel [1, 3] q) 1), .int ((364 : Int32) * (z8 0 3))] z10 (g_sel [1, 3] h) := by rw [hz10]; exact c_r_lays1 l G (g_sel [1, 3] q) (g_sel [1, 3] z8) (g_sel [1, 3] h) (0 : Int32) ((364 : Int32) * (z8 0 3)) s9
    refine x_callSv (n := 4) C hq (gFr_sub gs_M_l1_1_3) (hmz10) (va_cwS 4 C.2.2.2.2.2.1 gX3_saves_X3_lays rfl rfl rfl (by decide +kernel) ⟨Nat.le_of_ble_eq_true rfl, Nat.le_of_ble_eq_true rfl⟩) rfl rfl (Nat.le_of_ble_eq_true rfl) dX3_saves_67 (Nat.zero_le _) (Nat.zero_le _) ?_
    obtain ⟨z11, hz11⟩ : ∃ y9 : gM, y9 = g_mrg [1, 3] z8 z10 := ⟨_, rfl⟩
    have hf := hf.trans (g_let_eq hz11)
    have hok := g_let_p hz11 hok
    refine x_mu hz11 (g_mrg_id gs_M_l1_1_3.1) ?_
    refine x_aload_n C dX3_saves_70 rfl 0 rfl ?_
    refine x_dup C dX3_saves_71 rfl ?_
    refine x_get (v := .int (z11 0 3)) C in_X3_saves_3 0 rfl rfl 3 (by decide) k_X3_saves_33 rfl rfl dX3_saves_72 ?_
    refine x_iconst (v := (1 : Int32)) C dX3_saves_75 (by decide) ?_
    refine x_iadd C dX3_saves_76 ?_
    obtain ⟨z12, hz12⟩ : ∃ y9 : gM, y9 = g_set z11 0 (upd (z11 0) 3 ((z11 0 3) + (1 : Int32))) := ⟨_, rfl⟩
    have hf := hf.trans (g_let_eq hz12)
    have hok := g_let_p hz12 hok
    refine x_puti (μ' := z12) (ty := .int) C hq tyX3 tyX3_ok nmX3 in_X3_saves_3 0 rfl rfl 3 (by decide) k_X3_saves_33 rfl (tyX3_ok 3 (by decide)) rfl rfl rfl hz12 dX3_saves_77 ?_
    exact g_vret C hr dX3_saves_80 hf.symm rfl
set_option maxRecDepth 20000 in
theorem gs_M_l2_3_1 : gSub shM shl2 [3, 1] := ⟨by decide, rfl⟩
set_option maxRecDepth 20000 in
theorem in_X3_undo_3 : ∀ w ∈ u_ws RX3 TX3 12, w ∈ wsX3_undo := by decide +kernel
set_option maxRecDepth 20000 in
theorem k_X3_undo_16 : Cond.fieldLink RX3 16 "HintedPagesModel" "past" "[I" ∈ wsX3_undo := by decide +kernel
set_option maxRecDepth 20000 in
theorem k_X3_undo_25 : Cond.fieldLink RX3 25 "HintedPagesModel" "thrown" "I" ∈ wsX3_undo := by decide +kernel
set_option maxRecDepth 20000 in
theorem k_X3_undo_33 : Cond.fieldLink RX3 33 "HintedPagesModel" "kept" "I" ∈ wsX3_undo := by decide +kernel
set_option maxRecDepth 20000 in
theorem k_X3_undo_7 : Cond.fieldLink RX3 7 "HintedPagesModel" "now" "[I" ∈ wsX3_undo := by decide +kernel
abbrev rm_r_undo : Room := { frames := 1, cells := 0, slots := 0, locals := 24 }
noncomputable def f_r_undo (m : gM) : Int32 × gM := g_let (g_set m 0 (upd (m 0) 6 (0 : Int32))) (fun z1 : gM => (if (z1 0 3) = 0 then g_let (f_r_fails z1 (1 : Int32)) (fun z8 : Int32 × gM => (z8.1, z8.2)) else g_let (g_set z1 0 (upd (z1 0) 3 ((z1 0 3) - (1 : Int32)))) (fun z3 : gM => g_let (f_r_lays2 (g_sel [3, 1] z3) ((364 : Int32) * (z3 0 3)) (0 : Int32)) (fun z5 : gM => g_let (g_mrg [3, 1] z3 z5) (fun z6 : gM => ((z6 0 3), z6))))))
noncomputable def o_r_undo (m : gM) : Prop := g_let (g_set m 0 (upd (m 0) 6 (0 : Int32))) (fun z1 : gM => (if (z1 0 3) = 0 then (o_r_fails z1 (1 : Int32)) ∧ (g_let (f_r_fails z1 (1 : Int32)) (fun z8 : Int32 × gM => True)) else g_let (g_set z1 0 (upd (z1 0) 3 ((z1 0 3) - (1 : Int32)))) (fun z3 : gM => (o_r_lays2 (g_sel [3, 1] z3) ((364 : Int32) * (z3 0 3)) (0 : Int32)) ∧ (g_let (f_r_lays2 (g_sel [3, 1] z3) ((364 : Int32) * (z3 0 3)) (0 : Int32)) (fun z5 : gM => g_let (g_mrg [3, 1] z3 z5) (fun z6 : gM => True))))))
set_option maxRecDepth 100000 in
set_option maxHeartbeats 4000000 in
theorem c_r_undo (l : Launch) (G : gG) (q : Nat → Nat) (m : gM) (h : gN) (hok : o_r_undo m) : gMi l yX3_undo wsX3_undo rm_r_undo G shM q m h [.ref (q 0)] ((f_r_undo m).2) h ((f_r_undo m).1) := by
  intro sz
  refine g_met (cc := cX3_undo) (maxL := 1) (ret := (some .int)) (own := RX3) (Qc := fun sz => gQi G shM q ((f_r_undo m).2) h sz ((f_r_undo m).1)) (by decide) rfl rfl (Nat.le_of_ble_eq_true rfl) (fun p e s m9 below meth c C hq hr => ?_)
  refine x_lv (lv' := [(0, .ref (q 0))]) [0] rfl ?_
  have hf := f_r_undo.eq_1 m
  have hok := Eq.mp (o_r_undo.eq_1 m) hok
  refine x_aload_n C dX3_undo_0 rfl 0 rfl ?_
  refine x_iconst (v := (0 : Int32)) C dX3_undo_1 (by decide) ?_
  obtain ⟨z1, hz1⟩ : ∃ y9 : gM, y9 = g_set m 0 (upd (m 0) 6 (0 : Int32)) := ⟨_, rfl⟩
  have hf := hf.trans (g_let_eq hz1)
  have hok := g_let_p hz1 hok
  refine x_puti (μ' := z1) (ty := .int) C hq tyX3 tyX3_ok nmX3 in_X3_undo_3 0 rfl rfl 6 (by decide) k_X3_undo_25 rfl (tyX3_ok 6 (by decide)) rfl rfl rfl hz1 dX3_undo_2 ?_
  refine x_aload_n C dX3_undo_5 rfl 0 rfl ?_
  refine x_get (v := .int (z1 0 3)) C in_X3_undo_3 0 rfl rfl 3 (by decide) k_X3_undo_33 rfl rfl dX3_undo_6 ?_
  refine x_if_ne (tgt := 18) C dX3_undo_9 (by decide) (fun c2 => ?_) (fun c2 => ?_)
  · have hf := hf.trans (if_neg c2)
    have hok := g_in c2 hok
    refine x_aload_n C dX3_undo_18 rfl 0 rfl ?_
    refine x_dup C dX3_undo_19 rfl ?_
    refine x_get (v := .int (z1 0 3)) C in_X3_undo_3 0 rfl rfl 3 (by decide) k_X3_undo_33 rfl rfl dX3_undo_20 ?_
    refine x_iconst (v := (1 : Int32)) C dX3_undo_23 (by decide) ?_
    refine x_isub C dX3_undo_24 ?_
    obtain ⟨z3, hz3⟩ : ∃ y9 : gM, y9 = g_set z1 0 (upd (z1 0) 3 ((z1 0 3) - (1 : Int32))) := ⟨_, rfl⟩
    have hf := hf.trans (g_let_eq hz3)
    have hok := g_let_p hz3 hok
    refine x_puti (μ' := z3) (ty := .int) C hq tyX3 tyX3_ok nmX3 in_X3_undo_3 0 rfl rfl 3 (by decide) k_X3_undo_33 rfl (tyX3_ok 3 (by decide)) rfl rfl rfl hz3 dX3_undo_25 ?_
    refine x_aload_n C dX3_undo_28 rfl 0 rfl ?_
    refine x_get (v := .ref (q 3)) C in_X3_undo_3 0 rfl rfl 2 (by decide) k_X3_undo_16 rfl rfl dX3_undo_29 ?_
    refine x_sipush (v := (364 : Int32)) C dX3_undo_32 (by decide) ?_
    refine x_aload_n C dX3_undo_35 rfl 0 rfl ?_
    refine x_get (v := .int (z3 0 3)) C in_X3_undo_3 0 rfl rfl 3 (by decide) k_X3_undo_33 rfl rfl dX3_undo_36 ?_
    refine x_imul C dX3_undo_39 ?_
    refine x_aload_n C dX3_undo_40 rfl 0 rfl ?_
    refine x_get (v := .ref (q 1)) C in_X3_undo_3 0 rfl rfl 0 (by decide) k_X3_undo_7 rfl rfl dX3_undo_41 ?_
    refine x_iconst (v := (0 : Int32)) C dX3_undo_44 (by decide) ?_
    have s4 := And.left hok
    have hok := And.right hok
    obtain ⟨z5, hz5⟩ : ∃ y9 : gM, y9 = f_r_lays2 (g_sel [3, 1] z3) ((364 : Int32) * (z3 0 3)) (0 : Int32) := ⟨_, rfl⟩
    have hf := hf.trans (g_let_eq hz5)
    have hok := g_let_p hz5 hok
    have hmz5 : gMv l yX3_lays wsX3_lays rm_r_lays2 G shl2 (g_sel [3, 1] q) (g_sel [3, 1] z3) (g_sel [3, 1] h) [.ref ((g_sel [3, 1] q) 0), .int ((364 : Int32) * (z3 0 3)), .ref ((g_sel [3, 1] q) 1), .int (0 : Int32)] z5 (g_sel [3, 1] h) := by rw [hz5]; exact c_r_lays2 l G (g_sel [3, 1] q) (g_sel [3, 1] z3) (g_sel [3, 1] h) ((364 : Int32) * (z3 0 3)) (0 : Int32) s4
    refine x_callSv (n := 4) C hq (gFr_sub gs_M_l2_3_1) (hmz5) (va_cwS 4 C.2.2.2.2.2.1 gX3_undo_X3_lays rfl rfl rfl (by decide +kernel) ⟨Nat.le_of_ble_eq_true rfl, Nat.le_of_ble_eq_true rfl⟩) rfl rfl (Nat.le_of_ble_eq_true rfl) dX3_undo_45 (Nat.zero_le _) (Nat.zero_le _) ?_
    obtain ⟨z6, hz6⟩ : ∃ y9 : gM, y9 = g_mrg [3, 1] z3 z5 := ⟨_, rfl⟩
    have hf := hf.trans (g_let_eq hz6)
    have hok := g_let_p hz6 hok
    refine x_mu hz6 (g_mrg_id gs_M_l2_3_1.1) ?_
    refine x_aload_n C dX3_undo_48 rfl 0 rfl ?_
    refine x_get (v := .int (z6 0 3)) C in_X3_undo_3 0 rfl rfl 3 (by decide) k_X3_undo_33 rfl rfl dX3_undo_49 ?_
    exact g_iret C hr rfl dX3_undo_52 (congrArg (fun z => z.1) hf).symm (congrArg (fun z => z.2) hf).symm rfl
  · have hf := hf.trans (if_pos c2)
    have hok := g_ip c2 hok
    refine x_aload_n C dX3_undo_12 rfl 0 rfl ?_
    refine x_iconst (v := (1 : Int32)) C dX3_undo_13 (by decide) ?_
    have s7 := And.left hok
    have hok := And.right hok
    obtain ⟨z8, hz8⟩ : ∃ y9 : Int32 × gM, y9 = f_r_fails z1 (1 : Int32) := ⟨_, rfl⟩
    have hf := hf.trans (g_let_eq hz8)
    have hok := g_let_p hz8 hok
    have hmz8 : gMi l yX3_fails wsX3_fails rm_r_fails G shM q z1 h [.ref (q 0), .int (1 : Int32)] z8.2 h z8.1 := by rw [hz8]; exact c_r_fails l G q z1 h (1 : Int32) s7
    refine x_callVi (n := 1) C hq gFr_same (hmz8) (cwV 1 C.2.2.2.2.2.1 gX3_undo_X3_fails rfl rfl rfl (by decide +kernel) ⟨Nat.le_of_ble_eq_true rfl, Nat.le_of_ble_eq_true rfl⟩) rfl rfl rfl rfl (Nat.le_of_ble_eq_true rfl) dX3_undo_14 (Nat.zero_le _) (Nat.zero_le _) ?_
    exact g_iret C hr rfl dX3_undo_17 (congrArg (fun z => z.1) hf).symm (congrArg (fun z => z.2) hf).symm rfl
set_option maxRecDepth 20000 in
theorem gs_M_0_ : gSub shM sh0 [] := ⟨by decide, rfl⟩
set_option maxRecDepth 20000 in
theorem gs_M_r_1 : gSub shM shr [1] := ⟨by decide, rfl⟩
set_option maxRecDepth 20000 in
theorem in_X3_write_3 : ∀ w ∈ u_ws RX3 TX3 12, w ∈ wsX3_write := by decide +kernel
set_option maxRecDepth 20000 in
theorem k_X3_write_25 : Cond.fieldLink RX3 25 "HintedPagesModel" "thrown" "I" ∈ wsX3_write := by decide +kernel
set_option maxRecDepth 20000 in
theorem k_X3_write_7 : Cond.fieldLink RX3 7 "HintedPagesModel" "now" "[I" ∈ wsX3_write := by decide +kernel
abbrev rm_r_write : Room := { frames := 6, cells := 0, slots := 0, locals := 138 }
noncomputable def f_r_write (m : gM) (a1 : Int32) (a2 : Int32) : Int32 × gM := g_let (g_set m 0 (upd (m 0) 6 (0 : Int32))) (fun z1 : gM => (if (f_r_isPage a1) = 0 then g_let (f_r_fails z1 (1 : Int32)) (fun z14 : Int32 × gM => (z14.1, z14.2)) else (if (f_r_isHint a2) = 0 then g_let (f_r_fails z1 (2 : Int32)) (fun z12 : Int32 × gM => (z12.1, z12.2)) else g_let (f_r_saves z1) (fun z7 : gM => g_let (f_r_writes (g_sel [1] z7) a1 a2) (fun z9 : Int32 × gM => g_let (g_mrg [1] z7 z9.2) (fun z10 : gM => (z9.1, z10)))))))
noncomputable def o_r_write (m : gM) (a1 : Int32) (a2 : Int32) : Prop := g_let (g_set m 0 (upd (m 0) 6 (0 : Int32))) (fun z1 : gM => (o_r_isPage a1) ∧ ((if (f_r_isPage a1) = 0 then (o_r_fails z1 (1 : Int32)) ∧ (g_let (f_r_fails z1 (1 : Int32)) (fun z14 : Int32 × gM => True)) else (o_r_isHint a2) ∧ ((if (f_r_isHint a2) = 0 then (o_r_fails z1 (2 : Int32)) ∧ (g_let (f_r_fails z1 (2 : Int32)) (fun z12 : Int32 × gM => True)) else (o_r_saves z1) ∧ (g_let (f_r_saves z1) (fun z7 : gM => (o_r_writes (g_sel [1] z7) a1 a2) ∧ (g_let (f_r_writes (g_sel [1] z7) a1 a2) (fun z9 : Int32 × gM => g_let (g_mrg [1] z7 z9.2) (fun z10 : gM => True))))))))))
set_option maxRecDepth 100000 in
set_option maxHeartbeats 4000000 in
theorem c_r_write (l : Launch) (G : gG) (q : Nat → Nat) (m : gM) (h : gN) (a1 : Int32) (a2 : Int32) (hok : o_r_write m a1 a2) : gMi l yX3_write wsX3_write rm_r_write G shM q m h [.ref (q 0), .int a1, .int a2] ((f_r_write m a1 a2).2) h ((f_r_write m a1 a2).1) := by
  intro sz
  refine g_met (cc := cX3_write) (maxL := 3) (ret := (some .int)) (own := RX3) (Qc := fun sz => gQi G shM q ((f_r_write m a1 a2).2) h sz ((f_r_write m a1 a2).1)) (by decide) rfl rfl (Nat.le_of_ble_eq_true rfl) (fun p e s m9 below meth c C hq hr => ?_)
  refine x_lv (lv' := [(0, .ref (q 0)), (1, .int a1), (2, .int a2)]) [0, 1, 2] rfl ?_
  have hf := f_r_write.eq_1 m a1 a2
  have hok := Eq.mp (o_r_write.eq_1 m a1 a2) hok
  refine x_aload_n C dX3_write_0 rfl 0 rfl ?_
  refine x_iconst (v := (0 : Int32)) C dX3_write_1 (by decide) ?_
  obtain ⟨z1, hz1⟩ : ∃ y9 : gM, y9 = g_set m 0 (upd (m 0) 6 (0 : Int32)) := ⟨_, rfl⟩
  have hf := hf.trans (g_let_eq hz1)
  have hok := g_let_p hz1 hok
  refine x_puti (μ' := z1) (ty := .int) C hq tyX3 tyX3_ok nmX3 in_X3_write_3 0 rfl rfl 6 (by decide) k_X3_write_25 rfl (tyX3_ok 6 (by decide)) rfl rfl rfl hz1 dX3_write_2 ?_
  refine x_iload_n C dX3_write_5 rfl 1 rfl ?_
  have s2 := And.left hok
  have hok := And.right hok
  refine x_callSi (n := 1) C hq (gFr_pure gs_M_0_) (c_r_isPage l G (g_sel [] q) (g_sel [] z1) (g_sel [] h) a1 s2) (va_cwS 1 C.2.2.2.2.2.1 gX3_write_X3_isPage rfl rfl rfl (by decide +kernel) ⟨Nat.le_of_ble_eq_true rfl, Nat.le_of_ble_eq_true rfl⟩) rfl rfl (Nat.le_of_ble_eq_true rfl) dX3_write_6 (Nat.zero_le _) (Nat.zero_le _) ?_
  refine x_if_ne (tgt := 18) C dX3_write_9 (by decide) (fun c3 => ?_) (fun c3 => ?_)
  · have hf := hf.trans (if_neg c3)
    have hok := g_in c3 hok
    refine x_iload_n C dX3_write_18 rfl 2 rfl ?_
    have s4 := And.left hok
    have hok := And.right hok
    refine x_callSi (n := 1) C hq (gFr_pure gs_M_0_) (c_r_isHint l G (g_sel [] q) (g_sel [] z1) (g_sel [] h) a2 s4) (va_cwS 1 C.2.2.2.2.2.1 gX3_write_X3_isHint rfl rfl rfl (by decide +kernel) ⟨Nat.le_of_ble_eq_true rfl, Nat.le_of_ble_eq_true rfl⟩) rfl rfl (Nat.le_of_ble_eq_true rfl) dX3_write_19 (Nat.zero_le _) (Nat.zero_le _) ?_
    refine x_if_ne (tgt := 31) C dX3_write_22 (by decide) (fun c5 => ?_) (fun c5 => ?_)
    · have hf := hf.trans (if_neg c5)
      have hok := g_in c5 hok
      refine x_aload_n C dX3_write_31 rfl 0 rfl ?_
      have s6 := And.left hok
      have hok := And.right hok
      obtain ⟨z7, hz7⟩ : ∃ y9 : gM, y9 = f_r_saves z1 := ⟨_, rfl⟩
      have hf := hf.trans (g_let_eq hz7)
      have hok := g_let_p hz7 hok
      have hmz7 : gMv l yX3_saves wsX3_saves rm_r_saves G shM q z1 h [.ref (q 0)] z7 h := by rw [hz7]; exact c_r_saves l G q z1 h s6
      refine x_callVv (n := 0) C hq gFr_same (hmz7) (cwV 0 C.2.2.2.2.2.1 gX3_write_X3_saves rfl rfl rfl (by decide +kernel) ⟨Nat.le_of_ble_eq_true rfl, Nat.le_of_ble_eq_true rfl⟩) rfl rfl rfl rfl (Nat.le_of_ble_eq_true rfl) dX3_write_32 (Nat.zero_le _) (Nat.zero_le _) ?_
      refine x_aload_n C dX3_write_35 rfl 0 rfl ?_
      refine x_get (v := .ref (q 1)) C in_X3_write_3 0 rfl rfl 0 (by decide) k_X3_write_7 rfl rfl dX3_write_36 ?_
      refine x_iload_n C dX3_write_39 rfl 1 rfl ?_
      refine x_iload_n C dX3_write_40 rfl 2 rfl ?_
      have s8 := And.left hok
      have hok := And.right hok
      obtain ⟨z9, hz9⟩ : ∃ y9 : Int32 × gM, y9 = f_r_writes (g_sel [1] z7) a1 a2 := ⟨_, rfl⟩
      have hf := hf.trans (g_let_eq hz9)
      have hok := g_let_p hz9 hok
      have hmz9 : gMi l yX3_writes wsX3_writes rm_r_writes G shr (g_sel [1] q) (g_sel [1] z7) (g_sel [1] h) [.ref ((g_sel [1] q) 0), .int a1, .int a2] z9.2 (g_sel [1] h) z9.1 := by rw [hz9]; exact c_r_writes l G (g_sel [1] q) (g_sel [1] z7) (g_sel [1] h) a1 a2 s8
      refine x_callSi (n := 3) C hq (gFr_sub gs_M_r_1) (hmz9) (va_cwS 3 C.2.2.2.2.2.1 gX3_write_X3_writes rfl rfl rfl (by decide +kernel) ⟨Nat.le_of_ble_eq_true rfl, Nat.le_of_ble_eq_true rfl⟩) rfl rfl (Nat.le_of_ble_eq_true rfl) dX3_write_41 (Nat.zero_le _) (Nat.zero_le _) ?_
      obtain ⟨z10, hz10⟩ : ∃ y9 : gM, y9 = g_mrg [1] z7 z9.2 := ⟨_, rfl⟩
      have hf := hf.trans (g_let_eq hz10)
      have hok := g_let_p hz10 hok
      refine x_mu hz10 (g_mrg_id gs_M_r_1.1) ?_
      exact g_iret C hr rfl dX3_write_44 (congrArg (fun z => z.1) hf).symm (congrArg (fun z => z.2) hf).symm rfl
    · have hf := hf.trans (if_pos c5)
      have hok := g_ip c5 hok
      refine x_aload_n C dX3_write_25 rfl 0 rfl ?_
      refine x_iconst (v := (2 : Int32)) C dX3_write_26 (by decide) ?_
      have s11 := And.left hok
      have hok := And.right hok
      obtain ⟨z12, hz12⟩ : ∃ y9 : Int32 × gM, y9 = f_r_fails z1 (2 : Int32) := ⟨_, rfl⟩
      have hf := hf.trans (g_let_eq hz12)
      have hok := g_let_p hz12 hok
      have hmz12 : gMi l yX3_fails wsX3_fails rm_r_fails G shM q z1 h [.ref (q 0), .int (2 : Int32)] z12.2 h z12.1 := by rw [hz12]; exact c_r_fails l G q z1 h (2 : Int32) s11
      refine x_callVi (n := 1) C hq gFr_same (hmz12) (cwV 1 C.2.2.2.2.2.1 gX3_write_X3_fails rfl rfl rfl (by decide +kernel) ⟨Nat.le_of_ble_eq_true rfl, Nat.le_of_ble_eq_true rfl⟩) rfl rfl rfl rfl (Nat.le_of_ble_eq_true rfl) dX3_write_27 (Nat.zero_le _) (Nat.zero_le _) ?_
      exact g_iret C hr rfl dX3_write_30 (congrArg (fun z => z.1) hf).symm (congrArg (fun z => z.2) hf).symm rfl
  · have hf := hf.trans (if_pos c3)
    have hok := g_ip c3 hok
    refine x_aload_n C dX3_write_12 rfl 0 rfl ?_
    refine x_iconst (v := (1 : Int32)) C dX3_write_13 (by decide) ?_
    have s13 := And.left hok
    have hok := And.right hok
    obtain ⟨z14, hz14⟩ : ∃ y9 : Int32 × gM, y9 = f_r_fails z1 (1 : Int32) := ⟨_, rfl⟩
    have hf := hf.trans (g_let_eq hz14)
    have hok := g_let_p hz14 hok
    have hmz14 : gMi l yX3_fails wsX3_fails rm_r_fails G shM q z1 h [.ref (q 0), .int (1 : Int32)] z14.2 h z14.1 := by rw [hz14]; exact c_r_fails l G q z1 h (1 : Int32) s13
    refine x_callVi (n := 1) C hq gFr_same (hmz14) (cwV 1 C.2.2.2.2.2.1 gX3_write_X3_fails rfl rfl rfl (by decide +kernel) ⟨Nat.le_of_ble_eq_true rfl, Nat.le_of_ble_eq_true rfl⟩) rfl rfl rfl rfl (Nat.le_of_ble_eq_true rfl) dX3_write_14 (Nat.zero_le _) (Nat.zero_le _) ?_
    exact g_iret C hr rfl dX3_write_17 (congrArg (fun z => z.1) hf).symm (congrArg (fun z => z.2) hf).symm rfl
set_option maxRecDepth 20000 in
theorem in_X3_writeRow_3 : ∀ w ∈ u_ws RX3 TX3 12, w ∈ wsX3_writeRow := by decide +kernel
set_option maxRecDepth 20000 in
theorem k_X3_writeRow_25 : Cond.fieldLink RX3 25 "HintedPagesModel" "thrown" "I" ∈ wsX3_writeRow := by decide +kernel
set_option maxRecDepth 20000 in
theorem k_X3_writeRow_7 : Cond.fieldLink RX3 7 "HintedPagesModel" "now" "[I" ∈ wsX3_writeRow := by decide +kernel
abbrev rm_r_writeRow : Room := { frames := 6, cells := 0, slots := 0, locals := 138 }
noncomputable def L_r_writeRow_53 (x1 : Int32) (x2 : Int32) (x3 : Int32) (z : Int32 × Int32 × gM) : Bool × (Int32 × Int32 × gM) := (if (x1 + x2) ≤ z.2.1 then (false, (z.1, z.2.1, z.2.2)) else g_let (f_r_writes (g_sel [1] z.2.2) z.2.1 x3) (fun z3 : Int32 × gM => g_let (g_mrg [1] z.2.2 z3.2) (fun z4 : gM => g_let ((z.1 + z3.1)) (fun z5 : Int32 => g_let ((z.2.1 + (1 : Int32))) (fun z6 : Int32 => (true, (z5, z6, z4)))))))
noncomputable def K_r_writeRow_53 (x1 : Int32) (x2 : Int32) (x3 : Int32) (z : Int32 × Int32 × gM) : Prop := (if (x1 + x2) ≤ z.2.1 then True else (o_r_writes (g_sel [1] z.2.2) z.2.1 x3) ∧ (g_let (f_r_writes (g_sel [1] z.2.2) z.2.1 x3) (fun z3 : Int32 × gM => g_let (g_mrg [1] z.2.2 z3.2) (fun z4 : gM => g_let ((z.1 + z3.1)) (fun z5 : Int32 => g_let ((z.2.1 + (1 : Int32))) (fun z6 : Int32 => True))))))
set_option maxRecDepth 100000 in
set_option maxHeartbeats 4000000 in
theorem lp_r_writeRow_53 {p : Program} {l : Launch} {e : Env} {s : State} {m9 : MethodId} {args : Array Value} {below : List Frame} {meth : Method} {c : Code} {G : gG} {A : Nat → Prop} {Q : State → Prop} {q : Nat → Nat} (C : xC p s m9 args meth c G A 6 cX3_writeRow RX3 wsX3_writeRow) (hq : gD A q shM.length) (h : gN) (x1 : Int32) (x2 : Int32) (x3 : Int32) : ∀ (n : Nat) (z : Int32 × Int32 × gM), rOk (L_r_writeRow_53 x1 x2 x3) (K_r_writeRow_53 x1 x2 x3) n z → (∀ z' : Int32 × Int32 × gM, run (L_r_writeRow_53 x1 x2 x3) n z = z' → xJ p l e rm_r_writeRow s m9 args below meth c G A 6 Q 0 0 shM q z'.2.2 h [(0, .ref (q 0)), (1, .int x1), (2, .int x2), (3, .int x3), (4, .int z'.1), (5, .int z'.2.1)] [] 82) → xJ p l e rm_r_writeRow s m9 args below meth c G A 6 Q 0 0 shM q z.2.2 h [(0, .ref (q 0)), (1, .int x1), (2, .int x2), (3, .int x3), (4, .int z.1), (5, .int z.2.1)] [] 53 := by
  intro n
  induction n with
  | zero =>
    intro z hok _
    exact rOk_0 hok
  | succ n ih =>
    intro z hok K0
    have hnx := rOk_2 hok
    have hok := rOk_1 hok
    have hf := L_r_writeRow_53.eq_1 x1 x2 x3 z
    have hok := Eq.mp (K_r_writeRow_53.eq_1 x1 x2 x3 z) hok
    refine x_iload C dX3_writeRow_53 5 rfl ?_
    refine x_iload_n C dX3_writeRow_55 rfl 1 rfl ?_
    refine x_iload_n C dX3_writeRow_56 rfl 2 rfl ?_
    refine x_iadd C dX3_writeRow_57 ?_
    refine x_icmp_ge (tgt := 82) C dX3_writeRow_58 (by decide) (fun c1 => ?_) (fun c1 => ?_)
    · have hf := hf.trans (if_pos c1)
      have hok := g_ip c1 hok
      exact K0 ((z.1, z.2.1, z.2.2)) (run_f hf)
    · have hf := hf.trans (if_neg c1)
      have hok := g_in c1 hok
      refine x_iload C dX3_writeRow_61 4 rfl ?_
      refine x_aload_n C dX3_writeRow_63 rfl 0 rfl ?_
      refine x_get (v := .ref (q 1)) C in_X3_writeRow_3 0 rfl rfl 0 (by decide) k_X3_writeRow_7 rfl rfl dX3_writeRow_64 ?_
      refine x_iload C dX3_writeRow_67 5 rfl ?_
      refine x_iload_n C dX3_writeRow_69 rfl 3 rfl ?_
      have s2 := And.left hok
      have hok := And.right hok
      obtain ⟨z3, hz3⟩ : ∃ y9 : Int32 × gM, y9 = f_r_writes (g_sel [1] z.2.2) z.2.1 x3 := ⟨_, rfl⟩
      have hf := hf.trans (g_let_eq hz3)
      have hok := g_let_p hz3 hok
      have hmz3 : gMi l yX3_writes wsX3_writes rm_r_writes G shr (g_sel [1] q) (g_sel [1] z.2.2) (g_sel [1] h) [.ref ((g_sel [1] q) 0), .int z.2.1, .int x3] z3.2 (g_sel [1] h) z3.1 := by rw [hz3]; exact c_r_writes l G (g_sel [1] q) (g_sel [1] z.2.2) (g_sel [1] h) z.2.1 x3 s2
      refine x_callSi (n := 3) C hq (gFr_sub gs_M_r_1) (hmz3) (va_cwS 3 C.2.2.2.2.2.1 gX3_writeRow_X3_writes rfl rfl rfl (by decide +kernel) ⟨Nat.le_of_ble_eq_true rfl, Nat.le_of_ble_eq_true rfl⟩) rfl rfl (Nat.le_of_ble_eq_true rfl) dX3_writeRow_70 (Nat.zero_le _) (Nat.zero_le _) ?_
      obtain ⟨z4, hz4⟩ : ∃ y9 : gM, y9 = g_mrg [1] z.2.2 z3.2 := ⟨_, rfl⟩
      have hf := hf.trans (g_let_eq hz4)
      have hok := g_let_p hz4 hok
      refine x_mu hz4 (g_mrg_id gs_M_r_1.1) ?_
      refine x_iadd C dX3_writeRow_73 ?_
      obtain ⟨z5, hz5⟩ : ∃ y9 : Int32, y9 = (z.1 + z3.1) := ⟨_, rfl⟩
      have hf := hf.trans (g_let_eq hz5)
      have hok := g_let_p hz5 hok
      refine x_topi hz5 ?_
      refine x_istore (lv' := [(0, .ref (q 0)), (1, .int x1), (2, .int x2), (3, .int x3), (4, .int z5), (5, .int z.2.1)]) C dX3_writeRow_74 (by decide) [1, 2, 3, 4, 0, 5] rfl ?_
      obtain ⟨z6, hz6⟩ : ∃ y9 : Int32, y9 = (z.2.1 + (1 : Int32)) := ⟨_, rfl⟩
      have hf := hf.trans (g_let_eq hz6)
      have hok := g_let_p hz6 hok
      refine x_iinc (v := z6) (lv' := [(0, .ref (q 0)), (1, .int x1), (2, .int x2), (3, .int x3), (4, .int z5), (5, .int z6)]) C dX3_writeRow_76 5 rfl hz6.symm (by decide) [1, 2, 3, 4, 5, 0] rfl ?_
      refine x_goto (tgt := 53) C dX3_writeRow_79 (by decide) ?_
      exact ih ((z5, z6, z4)) (rOk_t hnx hf) (fun z' hz => K0 z' ((run_t hf).trans hz))
noncomputable def f_r_writeRow (m : gM) (a1 : Int32) (a2 : Int32) (a3 : Int32) : Int32 × gM := g_let (g_set m 0 (upd (m 0) 6 (0 : Int32))) (fun z1 : gM => (if (f_r_isPage a1) = 0 then g_let (f_r_fails z1 (1 : Int32)) (fun z17 : Int32 × gM => (z17.1, z17.2)) else (if (f_r_in a2 (1 : Int32) ((40 : Int32) - a1)) = 0 then g_let (f_r_fails z1 (2 : Int32)) (fun z7 : Int32 × gM => (z7.1, z7.2)) else (if (f_r_isHint a3) = 0 then g_let (f_r_fails z1 (2 : Int32)) (fun z15 : Int32 × gM => (z15.1, z15.2)) else g_let (f_r_saves z1) (fun z11 : gM => g_let (run (L_r_writeRow_53 a1 a2 a3) 400 (((0 : Int32), a1, z11))) (fun z13 : Int32 × Int32 × gM => (z13.1, z13.2.2)))))))
noncomputable def o_r_writeRow (m : gM) (a1 : Int32) (a2 : Int32) (a3 : Int32) : Prop := g_let (g_set m 0 (upd (m 0) 6 (0 : Int32))) (fun z1 : gM => (o_r_isPage a1) ∧ ((if (f_r_isPage a1) = 0 then (o_r_fails z1 (1 : Int32)) ∧ (g_let (f_r_fails z1 (1 : Int32)) (fun z17 : Int32 × gM => True)) else (o_r_in a2 (1 : Int32) ((40 : Int32) - a1)) ∧ ((if (f_r_in a2 (1 : Int32) ((40 : Int32) - a1)) = 0 then (o_r_fails z1 (2 : Int32)) ∧ (g_let (f_r_fails z1 (2 : Int32)) (fun z7 : Int32 × gM => True)) else (o_r_isHint a3) ∧ ((if (f_r_isHint a3) = 0 then (o_r_fails z1 (2 : Int32)) ∧ (g_let (f_r_fails z1 (2 : Int32)) (fun z15 : Int32 × gM => True)) else (o_r_saves z1) ∧ (g_let (f_r_saves z1) (fun z11 : gM => (rOk (L_r_writeRow_53 a1 a2 a3) (K_r_writeRow_53 a1 a2 a3) 400 (((0 : Int32), a1, z11))) ∧ (g_let (run (L_r_writeRow_53 a1 a2 a3) 400 (((0 : Int32), a1, z11))) (fun z13 : Int32 × Int32 × gM => True)))))))))))
set_option maxRecDepth 100000 in
set_option maxHeartbeats 4000000 in
theorem c_r_writeRow (l : Launch) (G : gG) (q : Nat → Nat) (m : gM) (h : gN) (a1 : Int32) (a2 : Int32) (a3 : Int32) (hok : o_r_writeRow m a1 a2 a3) : gMi l yX3_writeRow wsX3_writeRow rm_r_writeRow G shM q m h [.ref (q 0), .int a1, .int a2, .int a3] ((f_r_writeRow m a1 a2 a3).2) h ((f_r_writeRow m a1 a2 a3).1) := by
  intro sz
  refine g_met (cc := cX3_writeRow) (maxL := 6) (ret := (some .int)) (own := RX3) (Qc := fun sz => gQi G shM q ((f_r_writeRow m a1 a2 a3).2) h sz ((f_r_writeRow m a1 a2 a3).1)) (by decide) rfl rfl (Nat.le_of_ble_eq_true rfl) (fun p e s m9 below meth c C hq hr => ?_)
  refine x_lv (lv' := [(0, .ref (q 0)), (1, .int a1), (2, .int a2), (3, .int a3)]) [0, 1, 2, 3] rfl ?_
  have hf := f_r_writeRow.eq_1 m a1 a2 a3
  have hok := Eq.mp (o_r_writeRow.eq_1 m a1 a2 a3) hok
  refine x_aload_n C dX3_writeRow_0 rfl 0 rfl ?_
  refine x_iconst (v := (0 : Int32)) C dX3_writeRow_1 (by decide) ?_
  obtain ⟨z1, hz1⟩ : ∃ y9 : gM, y9 = g_set m 0 (upd (m 0) 6 (0 : Int32)) := ⟨_, rfl⟩
  have hf := hf.trans (g_let_eq hz1)
  have hok := g_let_p hz1 hok
  refine x_puti (μ' := z1) (ty := .int) C hq tyX3 tyX3_ok nmX3 in_X3_writeRow_3 0 rfl rfl 6 (by decide) k_X3_writeRow_25 rfl (tyX3_ok 6 (by decide)) rfl rfl rfl hz1 dX3_writeRow_2 ?_
  refine x_iload_n C dX3_writeRow_5 rfl 1 rfl ?_
  have s2 := And.left hok
  have hok := And.right hok
  refine x_callSi (n := 1) C hq (gFr_pure gs_M_0_) (c_r_isPage l G (g_sel [] q) (g_sel [] z1) (g_sel [] h) a1 s2) (va_cwS 1 C.2.2.2.2.2.1 gX3_writeRow_X3_isPage rfl rfl rfl (by decide +kernel) ⟨Nat.le_of_ble_eq_true rfl, Nat.le_of_ble_eq_true rfl⟩) rfl rfl (Nat.le_of_ble_eq_true rfl) dX3_writeRow_6 (Nat.zero_le _) (Nat.zero_le _) ?_
  refine x_if_ne (tgt := 18) C dX3_writeRow_9 (by decide) (fun c3 => ?_) (fun c3 => ?_)
  · have hf := hf.trans (if_neg c3)
    have hok := g_in c3 hok
    refine x_iload_n C dX3_writeRow_18 rfl 2 rfl ?_
    refine x_iconst (v := (1 : Int32)) C dX3_writeRow_19 (by decide) ?_
    refine x_bipush (v := (40 : Int32)) C dX3_writeRow_20 (by decide) ?_
    refine x_iload_n C dX3_writeRow_22 rfl 1 rfl ?_
    refine x_isub C dX3_writeRow_23 ?_
    have s4 := And.left hok
    have hok := And.right hok
    refine x_callSi (n := 3) C hq (gFr_pure gs_M_0_) (c_r_in l G (g_sel [] q) (g_sel [] z1) (g_sel [] h) a2 (1 : Int32) ((40 : Int32) - a1) s4) (va_cwS 3 C.2.2.2.2.2.1 gX3_writeRow_X3_in rfl rfl rfl (by decide +kernel) ⟨Nat.le_of_ble_eq_true rfl, Nat.le_of_ble_eq_true rfl⟩) rfl rfl (Nat.le_of_ble_eq_true rfl) dX3_writeRow_24 (Nat.zero_le _) (Nat.zero_le _) ?_
    refine x_if_eq (tgt := 37) C dX3_writeRow_27 (by decide) (fun c5 => ?_) (fun c5 => ?_)
    · have hf := hf.trans (if_pos c5)
      have hok := g_ip c5 hok
      refine x_aload_n C dX3_writeRow_37 rfl 0 rfl ?_
      refine x_iconst (v := (2 : Int32)) C dX3_writeRow_38 (by decide) ?_
      have s6 := And.left hok
      have hok := And.right hok
      obtain ⟨z7, hz7⟩ : ∃ y9 : Int32 × gM, y9 = f_r_fails z1 (2 : Int32) := ⟨_, rfl⟩
      have hf := hf.trans (g_let_eq hz7)
      have hok := g_let_p hz7 hok
      have hmz7 : gMi l yX3_fails wsX3_fails rm_r_fails G shM q z1 h [.ref (q 0), .int (2 : Int32)] z7.2 h z7.1 := by rw [hz7]; exact c_r_fails l G q z1 h (2 : Int32) s6
      refine x_callVi (n := 1) C hq gFr_same (hmz7) (cwV 1 C.2.2.2.2.2.1 gX3_writeRow_X3_fails rfl rfl rfl (by decide +kernel) ⟨Nat.le_of_ble_eq_true rfl, Nat.le_of_ble_eq_true rfl⟩) rfl rfl rfl rfl (Nat.le_of_ble_eq_true rfl) dX3_writeRow_39 (Nat.zero_le _) (Nat.zero_le _) ?_
      exact g_iret C hr rfl dX3_writeRow_42 (congrArg (fun z => z.1) hf).symm (congrArg (fun z => z.2) hf).symm rfl
    · have hf := hf.trans (if_neg c5)
      have hok := g_in c5 hok
      refine x_iload_n C dX3_writeRow_30 rfl 3 rfl ?_
      have s8 := And.left hok
      have hok := And.right hok
      refine x_callSi (n := 1) C hq (gFr_pure gs_M_0_) (c_r_isHint l G (g_sel [] q) (g_sel [] z1) (g_sel [] h) a3 s8) (va_cwS 1 C.2.2.2.2.2.1 gX3_writeRow_X3_isHint rfl rfl rfl (by decide +kernel) ⟨Nat.le_of_ble_eq_true rfl, Nat.le_of_ble_eq_true rfl⟩) rfl rfl (Nat.le_of_ble_eq_true rfl) dX3_writeRow_31 (Nat.zero_le _) (Nat.zero_le _) ?_
      refine x_if_ne (tgt := 43) C dX3_writeRow_34 (by decide) (fun c9 => ?_) (fun c9 => ?_)
      · have hf := hf.trans (if_neg c9)
        have hok := g_in c9 hok
        refine x_aload_n C dX3_writeRow_43 rfl 0 rfl ?_
        have s10 := And.left hok
        have hok := And.right hok
        obtain ⟨z11, hz11⟩ : ∃ y9 : gM, y9 = f_r_saves z1 := ⟨_, rfl⟩
        have hf := hf.trans (g_let_eq hz11)
        have hok := g_let_p hz11 hok
        have hmz11 : gMv l yX3_saves wsX3_saves rm_r_saves G shM q z1 h [.ref (q 0)] z11 h := by rw [hz11]; exact c_r_saves l G q z1 h s10
        refine x_callVv (n := 0) C hq gFr_same (hmz11) (cwV 0 C.2.2.2.2.2.1 gX3_writeRow_X3_saves rfl rfl rfl (by decide +kernel) ⟨Nat.le_of_ble_eq_true rfl, Nat.le_of_ble_eq_true rfl⟩) rfl rfl rfl rfl (Nat.le_of_ble_eq_true rfl) dX3_writeRow_44 (Nat.zero_le _) (Nat.zero_le _) ?_
        refine x_iconst (v := (0 : Int32)) C dX3_writeRow_47 (by decide) ?_
        refine x_istore (lv' := [(0, .ref (q 0)), (1, .int a1), (2, .int a2), (3, .int a3), (4, .int (0 : Int32))]) C dX3_writeRow_48 (by decide) [1, 2, 3, 4, 0] rfl ?_
        refine x_iload_n C dX3_writeRow_50 rfl 1 rfl ?_
        refine x_istore (lv' := [(0, .ref (q 0)), (1, .int a1), (2, .int a2), (3, .int a3), (4, .int (0 : Int32)), (5, .int a1)]) C dX3_writeRow_51 (by decide) [1, 2, 3, 4, 5, 0] rfl ?_
        have s12 := And.left hok
        have hok := And.right hok
        refine lp_r_writeRow_53 C hq h a1 a2 a3 400 (((0 : Int32), a1, z11)) s12 (fun z13 hz13 => ?_)
        have hf := hf.trans (g_let_eq hz13.symm)
        have hok := g_let_p hz13.symm hok
        refine x_iload C dX3_writeRow_82 4 rfl ?_
        exact g_iret C hr rfl dX3_writeRow_84 (congrArg (fun z => z.1) hf).symm (congrArg (fun z => z.2) hf).symm rfl
      · have hf := hf.trans (if_pos c9)
        have hok := g_ip c9 hok
        refine x_aload_n C dX3_writeRow_37 rfl 0 rfl ?_
        refine x_iconst (v := (2 : Int32)) C dX3_writeRow_38 (by decide) ?_
        have s14 := And.left hok
        have hok := And.right hok
        obtain ⟨z15, hz15⟩ : ∃ y9 : Int32 × gM, y9 = f_r_fails z1 (2 : Int32) := ⟨_, rfl⟩
        have hf := hf.trans (g_let_eq hz15)
        have hok := g_let_p hz15 hok
        have hmz15 : gMi l yX3_fails wsX3_fails rm_r_fails G shM q z1 h [.ref (q 0), .int (2 : Int32)] z15.2 h z15.1 := by rw [hz15]; exact c_r_fails l G q z1 h (2 : Int32) s14
        refine x_callVi (n := 1) C hq gFr_same (hmz15) (cwV 1 C.2.2.2.2.2.1 gX3_writeRow_X3_fails rfl rfl rfl (by decide +kernel) ⟨Nat.le_of_ble_eq_true rfl, Nat.le_of_ble_eq_true rfl⟩) rfl rfl rfl rfl (Nat.le_of_ble_eq_true rfl) dX3_writeRow_39 (Nat.zero_le _) (Nat.zero_le _) ?_
        exact g_iret C hr rfl dX3_writeRow_42 (congrArg (fun z => z.1) hf).symm (congrArg (fun z => z.2) hf).symm rfl
  · have hf := hf.trans (if_pos c3)
    have hok := g_ip c3 hok
    refine x_aload_n C dX3_writeRow_12 rfl 0 rfl ?_
    refine x_iconst (v := (1 : Int32)) C dX3_writeRow_13 (by decide) ?_
    have s16 := And.left hok
    have hok := And.right hok
    obtain ⟨z17, hz17⟩ : ∃ y9 : Int32 × gM, y9 = f_r_fails z1 (1 : Int32) := ⟨_, rfl⟩
    have hf := hf.trans (g_let_eq hz17)
    have hok := g_let_p hz17 hok
    have hmz17 : gMi l yX3_fails wsX3_fails rm_r_fails G shM q z1 h [.ref (q 0), .int (1 : Int32)] z17.2 h z17.1 := by rw [hz17]; exact c_r_fails l G q z1 h (1 : Int32) s16
    refine x_callVi (n := 1) C hq gFr_same (hmz17) (cwV 1 C.2.2.2.2.2.1 gX3_writeRow_X3_fails rfl rfl rfl (by decide +kernel) ⟨Nat.le_of_ble_eq_true rfl, Nat.le_of_ble_eq_true rfl⟩) rfl rfl rfl rfl (Nat.le_of_ble_eq_true rfl) dX3_writeRow_14 (Nat.zero_le _) (Nat.zero_le _) ?_
    exact g_iret C hr rfl dX3_writeRow_17 (congrArg (fun z => z.1) hf).symm (congrArg (fun z => z.2) hf).symm rfl
set_option maxRecDepth 20000 in
theorem in_X3_trim_3 : ∀ w ∈ u_ws RX3 TX3 12, w ∈ wsX3_trim := by decide +kernel
set_option maxRecDepth 20000 in
theorem k_X3_trim_25 : Cond.fieldLink RX3 25 "HintedPagesModel" "thrown" "I" ∈ wsX3_trim := by decide +kernel
set_option maxRecDepth 20000 in
theorem k_X3_trim_7 : Cond.fieldLink RX3 7 "HintedPagesModel" "now" "[I" ∈ wsX3_trim := by decide +kernel
abbrev rm_r_trim : Room := { frames := 2, cells := 0, slots := 0, locals := 45 }
noncomputable def f_r_trim (m : gM) (a1 : Int32) : Int32 × gM := g_let (g_set m 0 (upd (m 0) 6 (0 : Int32))) (fun z1 : gM => (if (f_r_isPage a1) = 0 then g_let (f_r_fails z1 (1 : Int32)) (fun z16 : Int32 × gM => (z16.1, z16.2)) else g_let (f_r_saves z1) (fun z5 : gM => g_let ((f_r_of (g_sel [1] z5) a1 (0 : Int32))) (fun z7 : Int32 => g_let (g_set z5 1 (upd (z5 1) (((144 : Int32) + ((5 : Int32) * a1)) + (0 : Int32)).toNatClampNeg (-1 : Int32))) (fun z9 : gM => g_let (g_set z9 1 (upd (z9 1) (((144 : Int32) + ((5 : Int32) * a1)) + (1 : Int32)).toNatClampNeg (-1 : Int32))) (fun z11 : gM => g_let (g_set z11 1 (upd (z11 1) (((144 : Int32) + ((5 : Int32) * a1)) + (4 : Int32)).toNatClampNeg (0 : Int32))) (fun z13 : gM => (if z7 = (-1 : Int32) then ((-1 : Int32), z13) else ((z7 / (8 : Int32)), z13)))))))))
noncomputable def o_r_trim (m : gM) (a1 : Int32) : Prop := g_let (g_set m 0 (upd (m 0) 6 (0 : Int32))) (fun z1 : gM => (o_r_isPage a1) ∧ ((if (f_r_isPage a1) = 0 then (o_r_fails z1 (1 : Int32)) ∧ (g_let (f_r_fails z1 (1 : Int32)) (fun z16 : Int32 × gM => True)) else (o_r_saves z1) ∧ (g_let (f_r_saves z1) (fun z5 : gM => (o_r_of (g_sel [1] z5) a1 (0 : Int32)) ∧ (g_let ((f_r_of (g_sel [1] z5) a1 (0 : Int32))) (fun z7 : Int32 => (vp_in (((144 : Int32) + ((5 : Int32) * a1)) + (0 : Int32)) 364) ∧ (g_let (g_set z5 1 (upd (z5 1) (((144 : Int32) + ((5 : Int32) * a1)) + (0 : Int32)).toNatClampNeg (-1 : Int32))) (fun z9 : gM => (vp_in (((144 : Int32) + ((5 : Int32) * a1)) + (1 : Int32)) 364) ∧ (g_let (g_set z9 1 (upd (z9 1) (((144 : Int32) + ((5 : Int32) * a1)) + (1 : Int32)).toNatClampNeg (-1 : Int32))) (fun z11 : gM => (vp_in (((144 : Int32) + ((5 : Int32) * a1)) + (4 : Int32)) 364) ∧ (g_let (g_set z11 1 (upd (z11 1) (((144 : Int32) + ((5 : Int32) * a1)) + (4 : Int32)).toNatClampNeg (0 : Int32))) (fun z13 : gM => (if z7 = (-1 : Int32) then True else True))))))))))))))
set_option maxRecDepth 100000 in
set_option maxHeartbeats 4000000 in
theorem c_r_trim (l : Launch) (G : gG) (q : Nat → Nat) (m : gM) (h : gN) (a1 : Int32) (hok : o_r_trim m a1) : gMi l yX3_trim wsX3_trim rm_r_trim G shM q m h [.ref (q 0), .int a1] ((f_r_trim m a1).2) h ((f_r_trim m a1).1) := by
  intro sz
  refine g_met (cc := cX3_trim) (maxL := 3) (ret := (some .int)) (own := RX3) (Qc := fun sz => gQi G shM q ((f_r_trim m a1).2) h sz ((f_r_trim m a1).1)) (by decide) rfl rfl (Nat.le_of_ble_eq_true rfl) (fun p e s m9 below meth c C hq hr => ?_)
  refine x_lv (lv' := [(0, .ref (q 0)), (1, .int a1)]) [0, 1] rfl ?_
  have hf := f_r_trim.eq_1 m a1
  have hok := Eq.mp (o_r_trim.eq_1 m a1) hok
  refine x_aload_n C dX3_trim_0 rfl 0 rfl ?_
  refine x_iconst (v := (0 : Int32)) C dX3_trim_1 (by decide) ?_
  obtain ⟨z1, hz1⟩ : ∃ y9 : gM, y9 = g_set m 0 (upd (m 0) 6 (0 : Int32)) := ⟨_, rfl⟩
  have hf := hf.trans (g_let_eq hz1)
  have hok := g_let_p hz1 hok
  refine x_puti (μ' := z1) (ty := .int) C hq tyX3 tyX3_ok nmX3 in_X3_trim_3 0 rfl rfl 6 (by decide) k_X3_trim_25 rfl (tyX3_ok 6 (by decide)) rfl rfl rfl hz1 dX3_trim_2 ?_
  refine x_iload_n C dX3_trim_5 rfl 1 rfl ?_
  have s2 := And.left hok
  have hok := And.right hok
  refine x_callSi (n := 1) C hq (gFr_pure gs_M_0_) (c_r_isPage l G (g_sel [] q) (g_sel [] z1) (g_sel [] h) a1 s2) (va_cwS 1 C.2.2.2.2.2.1 gX3_trim_X3_isPage rfl rfl rfl (by decide +kernel) ⟨Nat.le_of_ble_eq_true rfl, Nat.le_of_ble_eq_true rfl⟩) rfl rfl (Nat.le_of_ble_eq_true rfl) dX3_trim_6 (Nat.zero_le _) (Nat.zero_le _) ?_
  refine x_if_ne (tgt := 18) C dX3_trim_9 (by decide) (fun c3 => ?_) (fun c3 => ?_)
  · have hf := hf.trans (if_neg c3)
    have hok := g_in c3 hok
    refine x_aload_n C dX3_trim_18 rfl 0 rfl ?_
    have s4 := And.left hok
    have hok := And.right hok
    obtain ⟨z5, hz5⟩ : ∃ y9 : gM, y9 = f_r_saves z1 := ⟨_, rfl⟩
    have hf := hf.trans (g_let_eq hz5)
    have hok := g_let_p hz5 hok
    have hmz5 : gMv l yX3_saves wsX3_saves rm_r_saves G shM q z1 h [.ref (q 0)] z5 h := by rw [hz5]; exact c_r_saves l G q z1 h s4
    refine x_callVv (n := 0) C hq gFr_same (hmz5) (cwV 0 C.2.2.2.2.2.1 gX3_trim_X3_saves rfl rfl rfl (by decide +kernel) ⟨Nat.le_of_ble_eq_true rfl, Nat.le_of_ble_eq_true rfl⟩) rfl rfl rfl rfl (Nat.le_of_ble_eq_true rfl) dX3_trim_19 (Nat.zero_le _) (Nat.zero_le _) ?_
    refine x_aload_n C dX3_trim_22 rfl 0 rfl ?_
    refine x_get (v := .ref (q 1)) C in_X3_trim_3 0 rfl rfl 0 (by decide) k_X3_trim_7 rfl rfl dX3_trim_23 ?_
    refine x_iload_n C dX3_trim_26 rfl 1 rfl ?_
    refine x_iconst (v := (0 : Int32)) C dX3_trim_27 (by decide) ?_
    have s6 := And.left hok
    have hok := And.right hok
    refine x_callSi (n := 3) C hq (gFr_pure gs_M_r_1) (c_r_of l G (g_sel [1] q) (g_sel [1] z5) (g_sel [1] h) a1 (0 : Int32) s6) (va_cwS 3 C.2.2.2.2.2.1 gX3_trim_X3_of rfl rfl rfl (by decide +kernel) ⟨Nat.le_of_ble_eq_true rfl, Nat.le_of_ble_eq_true rfl⟩) rfl rfl (Nat.le_of_ble_eq_true rfl) dX3_trim_28 (Nat.zero_le _) (Nat.zero_le _) ?_
    obtain ⟨z7, hz7⟩ : ∃ y9 : Int32, y9 = (f_r_of (g_sel [1] z5) a1 (0 : Int32)) := ⟨_, rfl⟩
    have hf := hf.trans (g_let_eq hz7)
    have hok := g_let_p hz7 hok
    refine x_topi hz7 ?_
    refine x_istore_n (lv' := [(0, .ref (q 0)), (1, .int a1), (2, .int z7)]) C dX3_trim_31 rfl (by decide) [1, 2, 0] rfl ?_
    refine x_aload_n C dX3_trim_32 rfl 0 rfl ?_
    refine x_get (v := .ref (q 1)) C in_X3_trim_3 0 rfl rfl 0 (by decide) k_X3_trim_7 rfl rfl dX3_trim_33 ?_
    refine x_sipush (v := (144 : Int32)) C dX3_trim_36 (by decide) ?_
    refine x_iconst (v := (5 : Int32)) C dX3_trim_39 (by decide) ?_
    refine x_iload_n C dX3_trim_40 rfl 1 rfl ?_
    refine x_imul C dX3_trim_41 ?_
    refine x_iadd C dX3_trim_42 ?_
    refine x_iconst (v := (0 : Int32)) C dX3_trim_43 (by decide) ?_
    refine x_iadd C dX3_trim_44 ?_
    refine x_iconst (v := (-1 : Int32)) C dX3_trim_45 (by decide) ?_
    have s8 := And.left hok
    have hok := And.right hok
    obtain ⟨z9, hz9⟩ : ∃ y9 : gM, y9 = g_set z5 1 (upd (z5 1) (((144 : Int32) + ((5 : Int32) * a1)) + (0 : Int32)).toNatClampNeg (-1 : Int32)) := ⟨_, rfl⟩
    have hf := hf.trans (g_let_eq hz9)
    have hok := g_let_p hz9 hok
    refine x_iast (μ' := z9) (n := 364) C hq 1 rfl s8 hz9 dX3_trim_46 ?_
    refine x_aload_n C dX3_trim_47 rfl 0 rfl ?_
    refine x_get (v := .ref (q 1)) C in_X3_trim_3 0 rfl rfl 0 (by decide) k_X3_trim_7 rfl rfl dX3_trim_48 ?_
    refine x_sipush (v := (144 : Int32)) C dX3_trim_51 (by decide) ?_
    refine x_iconst (v := (5 : Int32)) C dX3_trim_54 (by decide) ?_
    refine x_iload_n C dX3_trim_55 rfl 1 rfl ?_
    refine x_imul C dX3_trim_56 ?_
    refine x_iadd C dX3_trim_57 ?_
    refine x_iconst (v := (1 : Int32)) C dX3_trim_58 (by decide) ?_
    refine x_iadd C dX3_trim_59 ?_
    refine x_iconst (v := (-1 : Int32)) C dX3_trim_60 (by decide) ?_
    have s10 := And.left hok
    have hok := And.right hok
    obtain ⟨z11, hz11⟩ : ∃ y9 : gM, y9 = g_set z9 1 (upd (z9 1) (((144 : Int32) + ((5 : Int32) * a1)) + (1 : Int32)).toNatClampNeg (-1 : Int32)) := ⟨_, rfl⟩
    have hf := hf.trans (g_let_eq hz11)
    have hok := g_let_p hz11 hok
    refine x_iast (μ' := z11) (n := 364) C hq 1 rfl s10 hz11 dX3_trim_61 ?_
    refine x_aload_n C dX3_trim_62 rfl 0 rfl ?_
    refine x_get (v := .ref (q 1)) C in_X3_trim_3 0 rfl rfl 0 (by decide) k_X3_trim_7 rfl rfl dX3_trim_63 ?_
    refine x_sipush (v := (144 : Int32)) C dX3_trim_66 (by decide) ?_
    refine x_iconst (v := (5 : Int32)) C dX3_trim_69 (by decide) ?_
    refine x_iload_n C dX3_trim_70 rfl 1 rfl ?_
    refine x_imul C dX3_trim_71 ?_
    refine x_iadd C dX3_trim_72 ?_
    refine x_iconst (v := (4 : Int32)) C dX3_trim_73 (by decide) ?_
    refine x_iadd C dX3_trim_74 ?_
    refine x_iconst (v := (0 : Int32)) C dX3_trim_75 (by decide) ?_
    have s12 := And.left hok
    have hok := And.right hok
    obtain ⟨z13, hz13⟩ : ∃ y9 : gM, y9 = g_set z11 1 (upd (z11 1) (((144 : Int32) + ((5 : Int32) * a1)) + (4 : Int32)).toNatClampNeg (0 : Int32)) := ⟨_, rfl⟩
    have hf := hf.trans (g_let_eq hz13)
    have hok := g_let_p hz13 hok
    refine x_iast (μ' := z13) (n := 364) C hq 1 rfl s12 hz13 dX3_trim_76 ?_
    refine x_iload_n C dX3_trim_77 rfl 2 rfl ?_
    refine x_iconst (v := (-1 : Int32)) C dX3_trim_78 (by decide) ?_
    refine x_icmp_ne (tgt := 86) C dX3_trim_79 (by decide) (fun c14 => ?_) (fun c14 => ?_)
    · have hf := hf.trans (if_neg c14)
      have hok := g_in c14 hok
      refine x_iload_n C dX3_trim_86 rfl 2 rfl ?_
      refine x_bipush (v := (8 : Int32)) C dX3_trim_87 (by decide) ?_
      refine x_idiv C dX3_trim_89 (by decide) ?_
      exact g_iret C hr rfl dX3_trim_90 (congrArg (fun z => z.1) hf).symm (congrArg (fun z => z.2) hf).symm rfl
    · have hf := hf.trans (if_pos c14)
      have hok := g_ip c14 hok
      refine x_iconst (v := (-1 : Int32)) C dX3_trim_82 (by decide) ?_
      refine x_goto (tgt := 90) C dX3_trim_83 (by decide) ?_
      exact g_iret C hr rfl dX3_trim_90 (congrArg (fun z => z.1) hf).symm (congrArg (fun z => z.2) hf).symm rfl
  · have hf := hf.trans (if_pos c3)
    have hok := g_ip c3 hok
    refine x_aload_n C dX3_trim_12 rfl 0 rfl ?_
    refine x_iconst (v := (1 : Int32)) C dX3_trim_13 (by decide) ?_
    have s15 := And.left hok
    have hok := And.right hok
    obtain ⟨z16, hz16⟩ : ∃ y9 : Int32 × gM, y9 = f_r_fails z1 (1 : Int32) := ⟨_, rfl⟩
    have hf := hf.trans (g_let_eq hz16)
    have hok := g_let_p hz16 hok
    have hmz16 : gMi l yX3_fails wsX3_fails rm_r_fails G shM q z1 h [.ref (q 0), .int (1 : Int32)] z16.2 h z16.1 := by rw [hz16]; exact c_r_fails l G q z1 h (1 : Int32) s15
    refine x_callVi (n := 1) C hq gFr_same (hmz16) (cwV 1 C.2.2.2.2.2.1 gX3_trim_X3_fails rfl rfl rfl (by decide +kernel) ⟨Nat.le_of_ble_eq_true rfl, Nat.le_of_ble_eq_true rfl⟩) rfl rfl rfl rfl (Nat.le_of_ble_eq_true rfl) dX3_trim_14 (Nat.zero_le _) (Nat.zero_le _) ?_
    exact g_iret C hr rfl dX3_trim_17 (congrArg (fun z => z.1) hf).symm (congrArg (fun z => z.2) hf).symm rfl
set_option maxRecDepth 20000 in
theorem in_X3_hint_3 : ∀ w ∈ u_ws RX3 TX3 12, w ∈ wsX3_hint := by decide +kernel
set_option maxRecDepth 20000 in
theorem k_X3_hint_25 : Cond.fieldLink RX3 25 "HintedPagesModel" "thrown" "I" ∈ wsX3_hint := by decide +kernel
set_option maxRecDepth 20000 in
theorem k_X3_hint_7 : Cond.fieldLink RX3 7 "HintedPagesModel" "now" "[I" ∈ wsX3_hint := by decide +kernel
abbrev rm_r_hint : Room := { frames := 2, cells := 0, slots := 0, locals := 45 }
noncomputable def f_r_hint (m : gM) (a1 : Int32) (a2 : Int32) : Int32 × gM := g_let (g_set m 0 (upd (m 0) 6 (0 : Int32))) (fun z1 : gM => (if (f_r_isPage a1) = 0 then g_let (f_r_fails z1 (1 : Int32)) (fun z19 : Int32 × gM => (z19.1, z19.2)) else (if (f_r_isHint a2) = 0 then g_let (f_r_fails z1 (2 : Int32)) (fun z17 : Int32 × gM => (z17.1, z17.2)) else (if (f_r_isWritten (g_sel [1] z1) a1) = 0 then g_let (f_r_fails z1 (3 : Int32)) (fun z15 : Int32 × gM => (z15.1, z15.2)) else g_let (f_r_saves z1) (fun z9 : gM => g_let ((f_r_of (g_sel [1] z9) a1 (1 : Int32))) (fun z11 : Int32 => g_let (g_set z9 1 (upd (z9 1) (((144 : Int32) + ((5 : Int32) * a1)) + (1 : Int32)).toNatClampNeg a2)) (fun z13 : gM => (z11, z13))))))))
noncomputable def o_r_hint (m : gM) (a1 : Int32) (a2 : Int32) : Prop := g_let (g_set m 0 (upd (m 0) 6 (0 : Int32))) (fun z1 : gM => (o_r_isPage a1) ∧ ((if (f_r_isPage a1) = 0 then (o_r_fails z1 (1 : Int32)) ∧ (g_let (f_r_fails z1 (1 : Int32)) (fun z19 : Int32 × gM => True)) else (o_r_isHint a2) ∧ ((if (f_r_isHint a2) = 0 then (o_r_fails z1 (2 : Int32)) ∧ (g_let (f_r_fails z1 (2 : Int32)) (fun z17 : Int32 × gM => True)) else (o_r_isWritten (g_sel [1] z1) a1) ∧ ((if (f_r_isWritten (g_sel [1] z1) a1) = 0 then (o_r_fails z1 (3 : Int32)) ∧ (g_let (f_r_fails z1 (3 : Int32)) (fun z15 : Int32 × gM => True)) else (o_r_saves z1) ∧ (g_let (f_r_saves z1) (fun z9 : gM => (o_r_of (g_sel [1] z9) a1 (1 : Int32)) ∧ (g_let ((f_r_of (g_sel [1] z9) a1 (1 : Int32))) (fun z11 : Int32 => (vp_in (((144 : Int32) + ((5 : Int32) * a1)) + (1 : Int32)) 364) ∧ (g_let (g_set z9 1 (upd (z9 1) (((144 : Int32) + ((5 : Int32) * a1)) + (1 : Int32)).toNatClampNeg a2)) (fun z13 : gM => True)))))))))))))
set_option maxRecDepth 100000 in
set_option maxHeartbeats 4000000 in
theorem c_r_hint (l : Launch) (G : gG) (q : Nat → Nat) (m : gM) (h : gN) (a1 : Int32) (a2 : Int32) (hok : o_r_hint m a1 a2) : gMi l yX3_hint wsX3_hint rm_r_hint G shM q m h [.ref (q 0), .int a1, .int a2] ((f_r_hint m a1 a2).2) h ((f_r_hint m a1 a2).1) := by
  intro sz
  refine g_met (cc := cX3_hint) (maxL := 4) (ret := (some .int)) (own := RX3) (Qc := fun sz => gQi G shM q ((f_r_hint m a1 a2).2) h sz ((f_r_hint m a1 a2).1)) (by decide) rfl rfl (Nat.le_of_ble_eq_true rfl) (fun p e s m9 below meth c C hq hr => ?_)
  refine x_lv (lv' := [(0, .ref (q 0)), (1, .int a1), (2, .int a2)]) [0, 1, 2] rfl ?_
  have hf := f_r_hint.eq_1 m a1 a2
  have hok := Eq.mp (o_r_hint.eq_1 m a1 a2) hok
  refine x_aload_n C dX3_hint_0 rfl 0 rfl ?_
  refine x_iconst (v := (0 : Int32)) C dX3_hint_1 (by decide) ?_
  obtain ⟨z1, hz1⟩ : ∃ y9 : gM, y9 = g_set m 0 (upd (m 0) 6 (0 : Int32)) := ⟨_, rfl⟩
  have hf := hf.trans (g_let_eq hz1)
  have hok := g_let_p hz1 hok
  refine x_puti (μ' := z1) (ty := .int) C hq tyX3 tyX3_ok nmX3 in_X3_hint_3 0 rfl rfl 6 (by decide) k_X3_hint_25 rfl (tyX3_ok 6 (by decide)) rfl rfl rfl hz1 dX3_hint_2 ?_
  refine x_iload_n C dX3_hint_5 rfl 1 rfl ?_
  have s2 := And.left hok
  have hok := And.right hok
  refine x_callSi (n := 1) C hq (gFr_pure gs_M_0_) (c_r_isPage l G (g_sel [] q) (g_sel [] z1) (g_sel [] h) a1 s2) (va_cwS 1 C.2.2.2.2.2.1 gX3_hint_X3_isPage rfl rfl rfl (by decide +kernel) ⟨Nat.le_of_ble_eq_true rfl, Nat.le_of_ble_eq_true rfl⟩) rfl rfl (Nat.le_of_ble_eq_true rfl) dX3_hint_6 (Nat.zero_le _) (Nat.zero_le _) ?_
  refine x_if_ne (tgt := 18) C dX3_hint_9 (by decide) (fun c3 => ?_) (fun c3 => ?_)
  · have hf := hf.trans (if_neg c3)
    have hok := g_in c3 hok
    refine x_iload_n C dX3_hint_18 rfl 2 rfl ?_
    have s4 := And.left hok
    have hok := And.right hok
    refine x_callSi (n := 1) C hq (gFr_pure gs_M_0_) (c_r_isHint l G (g_sel [] q) (g_sel [] z1) (g_sel [] h) a2 s4) (va_cwS 1 C.2.2.2.2.2.1 gX3_hint_X3_isHint rfl rfl rfl (by decide +kernel) ⟨Nat.le_of_ble_eq_true rfl, Nat.le_of_ble_eq_true rfl⟩) rfl rfl (Nat.le_of_ble_eq_true rfl) dX3_hint_19 (Nat.zero_le _) (Nat.zero_le _) ?_
    refine x_if_ne (tgt := 31) C dX3_hint_22 (by decide) (fun c5 => ?_) (fun c5 => ?_)
    · have hf := hf.trans (if_neg c5)
      have hok := g_in c5 hok
      refine x_aload_n C dX3_hint_31 rfl 0 rfl ?_
      refine x_get (v := .ref (q 1)) C in_X3_hint_3 0 rfl rfl 0 (by decide) k_X3_hint_7 rfl rfl dX3_hint_32 ?_
      refine x_iload_n C dX3_hint_35 rfl 1 rfl ?_
      have s6 := And.left hok
      have hok := And.right hok
      refine x_callSi (n := 2) C hq (gFr_pure gs_M_r_1) (c_r_isWritten l G (g_sel [1] q) (g_sel [1] z1) (g_sel [1] h) a1 s6) (va_cwS 2 C.2.2.2.2.2.1 gX3_hint_X3_isWritten rfl rfl rfl (by decide +kernel) ⟨Nat.le_of_ble_eq_true rfl, Nat.le_of_ble_eq_true rfl⟩) rfl rfl (Nat.le_of_ble_eq_true rfl) dX3_hint_36 (Nat.zero_le _) (Nat.zero_le _) ?_
      refine x_if_ne (tgt := 48) C dX3_hint_39 (by decide) (fun c7 => ?_) (fun c7 => ?_)
      · have hf := hf.trans (if_neg c7)
        have hok := g_in c7 hok
        refine x_aload_n C dX3_hint_48 rfl 0 rfl ?_
        have s8 := And.left hok
        have hok := And.right hok
        obtain ⟨z9, hz9⟩ : ∃ y9 : gM, y9 = f_r_saves z1 := ⟨_, rfl⟩
        have hf := hf.trans (g_let_eq hz9)
        have hok := g_let_p hz9 hok
        have hmz9 : gMv l yX3_saves wsX3_saves rm_r_saves G shM q z1 h [.ref (q 0)] z9 h := by rw [hz9]; exact c_r_saves l G q z1 h s8
        refine x_callVv (n := 0) C hq gFr_same (hmz9) (cwV 0 C.2.2.2.2.2.1 gX3_hint_X3_saves rfl rfl rfl (by decide +kernel) ⟨Nat.le_of_ble_eq_true rfl, Nat.le_of_ble_eq_true rfl⟩) rfl rfl rfl rfl (Nat.le_of_ble_eq_true rfl) dX3_hint_49 (Nat.zero_le _) (Nat.zero_le _) ?_
        refine x_aload_n C dX3_hint_52 rfl 0 rfl ?_
        refine x_get (v := .ref (q 1)) C in_X3_hint_3 0 rfl rfl 0 (by decide) k_X3_hint_7 rfl rfl dX3_hint_53 ?_
        refine x_iload_n C dX3_hint_56 rfl 1 rfl ?_
        refine x_iconst (v := (1 : Int32)) C dX3_hint_57 (by decide) ?_
        have s10 := And.left hok
        have hok := And.right hok
        refine x_callSi (n := 3) C hq (gFr_pure gs_M_r_1) (c_r_of l G (g_sel [1] q) (g_sel [1] z9) (g_sel [1] h) a1 (1 : Int32) s10) (va_cwS 3 C.2.2.2.2.2.1 gX3_hint_X3_of rfl rfl rfl (by decide +kernel) ⟨Nat.le_of_ble_eq_true rfl, Nat.le_of_ble_eq_true rfl⟩) rfl rfl (Nat.le_of_ble_eq_true rfl) dX3_hint_58 (Nat.zero_le _) (Nat.zero_le _) ?_
        obtain ⟨z11, hz11⟩ : ∃ y9 : Int32, y9 = (f_r_of (g_sel [1] z9) a1 (1 : Int32)) := ⟨_, rfl⟩
        have hf := hf.trans (g_let_eq hz11)
        have hok := g_let_p hz11 hok
        refine x_topi hz11 ?_
        refine x_istore_n (lv' := [(0, .ref (q 0)), (1, .int a1), (2, .int a2), (3, .int z11)]) C dX3_hint_61 rfl (by decide) [1, 2, 3, 0] rfl ?_
        refine x_aload_n C dX3_hint_62 rfl 0 rfl ?_
        refine x_get (v := .ref (q 1)) C in_X3_hint_3 0 rfl rfl 0 (by decide) k_X3_hint_7 rfl rfl dX3_hint_63 ?_
        refine x_sipush (v := (144 : Int32)) C dX3_hint_66 (by decide) ?_
        refine x_iconst (v := (5 : Int32)) C dX3_hint_69 (by decide) ?_
        refine x_iload_n C dX3_hint_70 rfl 1 rfl ?_
        refine x_imul C dX3_hint_71 ?_
        refine x_iadd C dX3_hint_72 ?_
        refine x_iconst (v := (1 : Int32)) C dX3_hint_73 (by decide) ?_
        refine x_iadd C dX3_hint_74 ?_
        refine x_iload_n C dX3_hint_75 rfl 2 rfl ?_
        have s12 := And.left hok
        have hok := And.right hok
        obtain ⟨z13, hz13⟩ : ∃ y9 : gM, y9 = g_set z9 1 (upd (z9 1) (((144 : Int32) + ((5 : Int32) * a1)) + (1 : Int32)).toNatClampNeg a2) := ⟨_, rfl⟩
        have hf := hf.trans (g_let_eq hz13)
        have hok := g_let_p hz13 hok
        refine x_iast (μ' := z13) (n := 364) C hq 1 rfl s12 hz13 dX3_hint_76 ?_
        refine x_iload_n C dX3_hint_77 rfl 3 rfl ?_
        exact g_iret C hr rfl dX3_hint_78 (congrArg (fun z => z.1) hf).symm (congrArg (fun z => z.2) hf).symm rfl
      · have hf := hf.trans (if_pos c7)
        have hok := g_ip c7 hok
        refine x_aload_n C dX3_hint_42 rfl 0 rfl ?_
        refine x_iconst (v := (3 : Int32)) C dX3_hint_43 (by decide) ?_
        have s14 := And.left hok
        have hok := And.right hok
        obtain ⟨z15, hz15⟩ : ∃ y9 : Int32 × gM, y9 = f_r_fails z1 (3 : Int32) := ⟨_, rfl⟩
        have hf := hf.trans (g_let_eq hz15)
        have hok := g_let_p hz15 hok
        have hmz15 : gMi l yX3_fails wsX3_fails rm_r_fails G shM q z1 h [.ref (q 0), .int (3 : Int32)] z15.2 h z15.1 := by rw [hz15]; exact c_r_fails l G q z1 h (3 : Int32) s14
        refine x_callVi (n := 1) C hq gFr_same (hmz15) (cwV 1 C.2.2.2.2.2.1 gX3_hint_X3_fails rfl rfl rfl (by decide +kernel) ⟨Nat.le_of_ble_eq_true rfl, Nat.le_of_ble_eq_true rfl⟩) rfl rfl rfl rfl (Nat.le_of_ble_eq_true rfl) dX3_hint_44 (Nat.zero_le _) (Nat.zero_le _) ?_
        exact g_iret C hr rfl dX3_hint_47 (congrArg (fun z => z.1) hf).symm (congrArg (fun z => z.2) hf).symm rfl
    · have hf := hf.trans (if_pos c5)
      have hok := g_ip c5 hok
      refine x_aload_n C dX3_hint_25 rfl 0 rfl ?_
      refine x_iconst (v := (2 : Int32)) C dX3_hint_26 (by decide) ?_
      have s16 := And.left hok
      have hok := And.right hok
      obtain ⟨z17, hz17⟩ : ∃ y9 : Int32 × gM, y9 = f_r_fails z1 (2 : Int32) := ⟨_, rfl⟩
      have hf := hf.trans (g_let_eq hz17)
      have hok := g_let_p hz17 hok
      have hmz17 : gMi l yX3_fails wsX3_fails rm_r_fails G shM q z1 h [.ref (q 0), .int (2 : Int32)] z17.2 h z17.1 := by rw [hz17]; exact c_r_fails l G q z1 h (2 : Int32) s16
      refine x_callVi (n := 1) C hq gFr_same (hmz17) (cwV 1 C.2.2.2.2.2.1 gX3_hint_X3_fails rfl rfl rfl (by decide +kernel) ⟨Nat.le_of_ble_eq_true rfl, Nat.le_of_ble_eq_true rfl⟩) rfl rfl rfl rfl (Nat.le_of_ble_eq_true rfl) dX3_hint_27 (Nat.zero_le _) (Nat.zero_le _) ?_
      exact g_iret C hr rfl dX3_hint_30 (congrArg (fun z => z.1) hf).symm (congrArg (fun z => z.2) hf).symm rfl
  · have hf := hf.trans (if_pos c3)
    have hok := g_ip c3 hok
    refine x_aload_n C dX3_hint_12 rfl 0 rfl ?_
    refine x_iconst (v := (1 : Int32)) C dX3_hint_13 (by decide) ?_
    have s18 := And.left hok
    have hok := And.right hok
    obtain ⟨z19, hz19⟩ : ∃ y9 : Int32 × gM, y9 = f_r_fails z1 (1 : Int32) := ⟨_, rfl⟩
    have hf := hf.trans (g_let_eq hz19)
    have hok := g_let_p hz19 hok
    have hmz19 : gMi l yX3_fails wsX3_fails rm_r_fails G shM q z1 h [.ref (q 0), .int (1 : Int32)] z19.2 h z19.1 := by rw [hz19]; exact c_r_fails l G q z1 h (1 : Int32) s18
    refine x_callVi (n := 1) C hq gFr_same (hmz19) (cwV 1 C.2.2.2.2.2.1 gX3_hint_X3_fails rfl rfl rfl (by decide +kernel) ⟨Nat.le_of_ble_eq_true rfl, Nat.le_of_ble_eq_true rfl⟩) rfl rfl rfl rfl (Nat.le_of_ble_eq_true rfl) dX3_hint_14 (Nat.zero_le _) (Nat.zero_le _) ?_
    exact g_iret C hr rfl dX3_hint_17 (congrArg (fun z => z.1) hf).symm (congrArg (fun z => z.2) hf).symm rfl
set_option maxRecDepth 20000 in
theorem in_X3_collect_3 : ∀ w ∈ u_ws RX3 TX3 12, w ∈ wsX3_collect := by decide +kernel
set_option maxRecDepth 20000 in
theorem k_X3_collect_25 : Cond.fieldLink RX3 25 "HintedPagesModel" "thrown" "I" ∈ wsX3_collect := by decide +kernel
set_option maxRecDepth 20000 in
theorem k_X3_collect_7 : Cond.fieldLink RX3 7 "HintedPagesModel" "now" "[I" ∈ wsX3_collect := by decide +kernel
abbrev rm_r_collect : Room := { frames := 3, cells := 0, slots := 0, locals := 71 }
noncomputable def f_r_collect (m : gM) (a1 : Int32) : Int32 × gM := g_let (g_set m 0 (upd (m 0) 6 (0 : Int32))) (fun z1 : gM => (if (f_r_isBlock a1) = 0 then g_let (f_r_fails z1 (1 : Int32)) (fun z14 : Int32 × gM => (z14.1, z14.2)) else (if (z1 1 ((96 : Int32) + a1).toNatClampNeg) = (2 : Int32) then g_let (f_r_saves z1) (fun z7 : gM => g_let (f_r_collects (g_sel [1] z7) a1) (fun z9 : Int32 × gM => g_let (g_mrg [1] z7 z9.2) (fun z10 : gM => (z9.1, z10)))) else g_let (f_r_fails z1 (2 : Int32)) (fun z12 : Int32 × gM => (z12.1, z12.2)))))
noncomputable def o_r_collect (m : gM) (a1 : Int32) : Prop := g_let (g_set m 0 (upd (m 0) 6 (0 : Int32))) (fun z1 : gM => (o_r_isBlock a1) ∧ ((if (f_r_isBlock a1) = 0 then (o_r_fails z1 (1 : Int32)) ∧ (g_let (f_r_fails z1 (1 : Int32)) (fun z14 : Int32 × gM => True)) else (vp_in ((96 : Int32) + a1) 364) ∧ ((if (z1 1 ((96 : Int32) + a1).toNatClampNeg) = (2 : Int32) then (o_r_saves z1) ∧ (g_let (f_r_saves z1) (fun z7 : gM => (o_r_collects (g_sel [1] z7) a1) ∧ (g_let (f_r_collects (g_sel [1] z7) a1) (fun z9 : Int32 × gM => g_let (g_mrg [1] z7 z9.2) (fun z10 : gM => True))))) else (o_r_fails z1 (2 : Int32)) ∧ (g_let (f_r_fails z1 (2 : Int32)) (fun z12 : Int32 × gM => True)))))))
set_option maxRecDepth 100000 in
set_option maxHeartbeats 4000000 in
theorem c_r_collect (l : Launch) (G : gG) (q : Nat → Nat) (m : gM) (h : gN) (a1 : Int32) (hok : o_r_collect m a1) : gMi l yX3_collect wsX3_collect rm_r_collect G shM q m h [.ref (q 0), .int a1] ((f_r_collect m a1).2) h ((f_r_collect m a1).1) := by
  intro sz
  refine g_met (cc := cX3_collect) (maxL := 2) (ret := (some .int)) (own := RX3) (Qc := fun sz => gQi G shM q ((f_r_collect m a1).2) h sz ((f_r_collect m a1).1)) (by decide) rfl rfl (Nat.le_of_ble_eq_true rfl) (fun p e s m9 below meth c C hq hr => ?_)
  refine x_lv (lv' := [(0, .ref (q 0)), (1, .int a1)]) [0, 1] rfl ?_
  have hf := f_r_collect.eq_1 m a1
  have hok := Eq.mp (o_r_collect.eq_1 m a1) hok
  refine x_aload_n C dX3_collect_0 rfl 0 rfl ?_
  refine x_iconst (v := (0 : Int32)) C dX3_collect_1 (by decide) ?_
  obtain ⟨z1, hz1⟩ : ∃ y9 : gM, y9 = g_set m 0 (upd (m 0) 6 (0 : Int32)) := ⟨_, rfl⟩
  have hf := hf.trans (g_let_eq hz1)
  have hok := g_let_p hz1 hok
  refine x_puti (μ' := z1) (ty := .int) C hq tyX3 tyX3_ok nmX3 in_X3_collect_3 0 rfl rfl 6 (by decide) k_X3_collect_25 rfl (tyX3_ok 6 (by decide)) rfl rfl rfl hz1 dX3_collect_2 ?_
  refine x_iload_n C dX3_collect_5 rfl 1 rfl ?_
  have s2 := And.left hok
  have hok := And.right hok
  refine x_callSi (n := 1) C hq (gFr_pure gs_M_0_) (c_r_isBlock l G (g_sel [] q) (g_sel [] z1) (g_sel [] h) a1 s2) (va_cwS 1 C.2.2.2.2.2.1 gX3_collect_X3_isBlock rfl rfl rfl (by decide +kernel) ⟨Nat.le_of_ble_eq_true rfl, Nat.le_of_ble_eq_true rfl⟩) rfl rfl (Nat.le_of_ble_eq_true rfl) dX3_collect_6 (Nat.zero_le _) (Nat.zero_le _) ?_
  refine x_if_ne (tgt := 18) C dX3_collect_9 (by decide) (fun c3 => ?_) (fun c3 => ?_)
  · have hf := hf.trans (if_neg c3)
    have hok := g_in c3 hok
    refine x_aload_n C dX3_collect_18 rfl 0 rfl ?_
    refine x_get (v := .ref (q 1)) C in_X3_collect_3 0 rfl rfl 0 (by decide) k_X3_collect_7 rfl rfl dX3_collect_19 ?_
    refine x_bipush (v := (96 : Int32)) C dX3_collect_22 (by decide) ?_
    refine x_iload_n C dX3_collect_24 rfl 1 rfl ?_
    refine x_iadd C dX3_collect_25 ?_
    have s4 := And.left hok
    have hok := And.right hok
    refine x_iald (n := 364) (v := (z1 1 ((96 : Int32) + a1).toNatClampNeg)) C 1 rfl s4 rfl dX3_collect_26 ?_
    refine x_iconst (v := (2 : Int32)) C dX3_collect_27 (by decide) ?_
    refine x_icmp_eq (tgt := 37) C dX3_collect_28 (by decide) (fun c5 => ?_) (fun c5 => ?_)
    · have hf := hf.trans (if_pos c5)
      have hok := g_ip c5 hok
      refine x_aload_n C dX3_collect_37 rfl 0 rfl ?_
      have s6 := And.left hok
      have hok := And.right hok
      obtain ⟨z7, hz7⟩ : ∃ y9 : gM, y9 = f_r_saves z1 := ⟨_, rfl⟩
      have hf := hf.trans (g_let_eq hz7)
      have hok := g_let_p hz7 hok
      have hmz7 : gMv l yX3_saves wsX3_saves rm_r_saves G shM q z1 h [.ref (q 0)] z7 h := by rw [hz7]; exact c_r_saves l G q z1 h s6
      refine x_callVv (n := 0) C hq gFr_same (hmz7) (cwV 0 C.2.2.2.2.2.1 gX3_collect_X3_saves rfl rfl rfl (by decide +kernel) ⟨Nat.le_of_ble_eq_true rfl, Nat.le_of_ble_eq_true rfl⟩) rfl rfl rfl rfl (Nat.le_of_ble_eq_true rfl) dX3_collect_38 (Nat.zero_le _) (Nat.zero_le _) ?_
      refine x_aload_n C dX3_collect_41 rfl 0 rfl ?_
      refine x_get (v := .ref (q 1)) C in_X3_collect_3 0 rfl rfl 0 (by decide) k_X3_collect_7 rfl rfl dX3_collect_42 ?_
      refine x_iload_n C dX3_collect_45 rfl 1 rfl ?_
      have s8 := And.left hok
      have hok := And.right hok
      obtain ⟨z9, hz9⟩ : ∃ y9 : Int32 × gM, y9 = f_r_collects (g_sel [1] z7) a1 := ⟨_, rfl⟩
      have hf := hf.trans (g_let_eq hz9)
      have hok := g_let_p hz9 hok
      have hmz9 : gMi l yX3_collects wsX3_collects rm_r_collects G shr (g_sel [1] q) (g_sel [1] z7) (g_sel [1] h) [.ref ((g_sel [1] q) 0), .int a1] z9.2 (g_sel [1] h) z9.1 := by rw [hz9]; exact c_r_collects l G (g_sel [1] q) (g_sel [1] z7) (g_sel [1] h) a1 s8
      refine x_callSi (n := 2) C hq (gFr_sub gs_M_r_1) (hmz9) (va_cwS 2 C.2.2.2.2.2.1 gX3_collect_X3_collects rfl rfl rfl (by decide +kernel) ⟨Nat.le_of_ble_eq_true rfl, Nat.le_of_ble_eq_true rfl⟩) rfl rfl (Nat.le_of_ble_eq_true rfl) dX3_collect_46 (Nat.zero_le _) (Nat.zero_le _) ?_
      obtain ⟨z10, hz10⟩ : ∃ y9 : gM, y9 = g_mrg [1] z7 z9.2 := ⟨_, rfl⟩
      have hf := hf.trans (g_let_eq hz10)
      have hok := g_let_p hz10 hok
      refine x_mu hz10 (g_mrg_id gs_M_r_1.1) ?_
      exact g_iret C hr rfl dX3_collect_49 (congrArg (fun z => z.1) hf).symm (congrArg (fun z => z.2) hf).symm rfl
    · have hf := hf.trans (if_neg c5)
      have hok := g_in c5 hok
      refine x_aload_n C dX3_collect_31 rfl 0 rfl ?_
      refine x_iconst (v := (2 : Int32)) C dX3_collect_32 (by decide) ?_
      have s11 := And.left hok
      have hok := And.right hok
      obtain ⟨z12, hz12⟩ : ∃ y9 : Int32 × gM, y9 = f_r_fails z1 (2 : Int32) := ⟨_, rfl⟩
      have hf := hf.trans (g_let_eq hz12)
      have hok := g_let_p hz12 hok
      have hmz12 : gMi l yX3_fails wsX3_fails rm_r_fails G shM q z1 h [.ref (q 0), .int (2 : Int32)] z12.2 h z12.1 := by rw [hz12]; exact c_r_fails l G q z1 h (2 : Int32) s11
      refine x_callVi (n := 1) C hq gFr_same (hmz12) (cwV 1 C.2.2.2.2.2.1 gX3_collect_X3_fails rfl rfl rfl (by decide +kernel) ⟨Nat.le_of_ble_eq_true rfl, Nat.le_of_ble_eq_true rfl⟩) rfl rfl rfl rfl (Nat.le_of_ble_eq_true rfl) dX3_collect_33 (Nat.zero_le _) (Nat.zero_le _) ?_
      exact g_iret C hr rfl dX3_collect_36 (congrArg (fun z => z.1) hf).symm (congrArg (fun z => z.2) hf).symm rfl
  · have hf := hf.trans (if_pos c3)
    have hok := g_ip c3 hok
    refine x_aload_n C dX3_collect_12 rfl 0 rfl ?_
    refine x_iconst (v := (1 : Int32)) C dX3_collect_13 (by decide) ?_
    have s13 := And.left hok
    have hok := And.right hok
    obtain ⟨z14, hz14⟩ : ∃ y9 : Int32 × gM, y9 = f_r_fails z1 (1 : Int32) := ⟨_, rfl⟩
    have hf := hf.trans (g_let_eq hz14)
    have hok := g_let_p hz14 hok
    have hmz14 : gMi l yX3_fails wsX3_fails rm_r_fails G shM q z1 h [.ref (q 0), .int (1 : Int32)] z14.2 h z14.1 := by rw [hz14]; exact c_r_fails l G q z1 h (1 : Int32) s13
    refine x_callVi (n := 1) C hq gFr_same (hmz14) (cwV 1 C.2.2.2.2.2.1 gX3_collect_X3_fails rfl rfl rfl (by decide +kernel) ⟨Nat.le_of_ble_eq_true rfl, Nat.le_of_ble_eq_true rfl⟩) rfl rfl rfl rfl (Nat.le_of_ble_eq_true rfl) dX3_collect_14 (Nat.zero_le _) (Nat.zero_le _) ?_
    exact g_iret C hr rfl dX3_collect_17 (congrArg (fun z => z.1) hf).symm (congrArg (fun z => z.2) hf).symm rfl
set_option maxRecDepth 20000 in
theorem in_X3_tidy_3 : ∀ w ∈ u_ws RX3 TX3 12, w ∈ wsX3_tidy := by decide +kernel
set_option maxRecDepth 20000 in
theorem k_X3_tidy_25 : Cond.fieldLink RX3 25 "HintedPagesModel" "thrown" "I" ∈ wsX3_tidy := by decide +kernel
set_option maxRecDepth 20000 in
theorem k_X3_tidy_7 : Cond.fieldLink RX3 7 "HintedPagesModel" "now" "[I" ∈ wsX3_tidy := by decide +kernel
abbrev rm_r_tidy : Room := { frames := 5, cells := 0, slots := 0, locals := 115 }
noncomputable def f_r_tidy (m : gM) (a1 : Int32) : Int32 × gM := g_let (g_set m 0 (upd (m 0) 6 (0 : Int32))) (fun z1 : gM => (if (f_r_in a1 (1 : Int32) (12 : Int32)) = 0 then g_let (f_r_fails z1 (1 : Int32)) (fun z12 : Int32 × gM => (z12.1, z12.2)) else g_let (f_r_saves z1) (fun z5 : gM => g_let ((z5 1 (362 : Int32).toNatClampNeg)) (fun z6 : Int32 => g_let (f_r_frees (g_sel [1] z5) a1) (fun z8 : Int32 × gM => g_let (g_mrg [1] z5 z8.2) (fun z9 : gM => (if 0 ≤ z8.1 then (((z9 1 (362 : Int32).toNatClampNeg) - z6), z9) else (z8.1, z9))))))))
noncomputable def o_r_tidy (m : gM) (a1 : Int32) : Prop := g_let (g_set m 0 (upd (m 0) 6 (0 : Int32))) (fun z1 : gM => (o_r_in a1 (1 : Int32) (12 : Int32)) ∧ ((if (f_r_in a1 (1 : Int32) (12 : Int32)) = 0 then (o_r_fails z1 (1 : Int32)) ∧ (g_let (f_r_fails z1 (1 : Int32)) (fun z12 : Int32 × gM => True)) else (o_r_saves z1) ∧ (g_let (f_r_saves z1) (fun z5 : gM => g_let ((z5 1 (362 : Int32).toNatClampNeg)) (fun z6 : Int32 => (o_r_frees (g_sel [1] z5) a1) ∧ (g_let (f_r_frees (g_sel [1] z5) a1) (fun z8 : Int32 × gM => g_let (g_mrg [1] z5 z8.2) (fun z9 : gM => (if 0 ≤ z8.1 then True else True))))))))))
set_option maxRecDepth 100000 in
set_option maxHeartbeats 4000000 in
theorem c_r_tidy (l : Launch) (G : gG) (q : Nat → Nat) (m : gM) (h : gN) (a1 : Int32) (hok : o_r_tidy m a1) : gMi l yX3_tidy wsX3_tidy rm_r_tidy G shM q m h [.ref (q 0), .int a1] ((f_r_tidy m a1).2) h ((f_r_tidy m a1).1) := by
  intro sz
  refine g_met (cc := cX3_tidy) (maxL := 4) (ret := (some .int)) (own := RX3) (Qc := fun sz => gQi G shM q ((f_r_tidy m a1).2) h sz ((f_r_tidy m a1).1)) (by decide) rfl rfl (Nat.le_of_ble_eq_true rfl) (fun p e s m9 below meth c C hq hr => ?_)
  refine x_lv (lv' := [(0, .ref (q 0)), (1, .int a1)]) [0, 1] rfl ?_
  have hf := f_r_tidy.eq_1 m a1
  have hok := Eq.mp (o_r_tidy.eq_1 m a1) hok
  refine x_aload_n C dX3_tidy_0 rfl 0 rfl ?_
  refine x_iconst (v := (0 : Int32)) C dX3_tidy_1 (by decide) ?_
  obtain ⟨z1, hz1⟩ : ∃ y9 : gM, y9 = g_set m 0 (upd (m 0) 6 (0 : Int32)) := ⟨_, rfl⟩
  have hf := hf.trans (g_let_eq hz1)
  have hok := g_let_p hz1 hok
  refine x_puti (μ' := z1) (ty := .int) C hq tyX3 tyX3_ok nmX3 in_X3_tidy_3 0 rfl rfl 6 (by decide) k_X3_tidy_25 rfl (tyX3_ok 6 (by decide)) rfl rfl rfl hz1 dX3_tidy_2 ?_
  refine x_iload_n C dX3_tidy_5 rfl 1 rfl ?_
  refine x_iconst (v := (1 : Int32)) C dX3_tidy_6 (by decide) ?_
  refine x_bipush (v := (12 : Int32)) C dX3_tidy_7 (by decide) ?_
  have s2 := And.left hok
  have hok := And.right hok
  refine x_callSi (n := 3) C hq (gFr_pure gs_M_0_) (c_r_in l G (g_sel [] q) (g_sel [] z1) (g_sel [] h) a1 (1 : Int32) (12 : Int32) s2) (va_cwS 3 C.2.2.2.2.2.1 gX3_tidy_X3_in rfl rfl rfl (by decide +kernel) ⟨Nat.le_of_ble_eq_true rfl, Nat.le_of_ble_eq_true rfl⟩) rfl rfl (Nat.le_of_ble_eq_true rfl) dX3_tidy_9 (Nat.zero_le _) (Nat.zero_le _) ?_
  refine x_if_ne (tgt := 21) C dX3_tidy_12 (by decide) (fun c3 => ?_) (fun c3 => ?_)
  · have hf := hf.trans (if_neg c3)
    have hok := g_in c3 hok
    refine x_aload_n C dX3_tidy_21 rfl 0 rfl ?_
    have s4 := And.left hok
    have hok := And.right hok
    obtain ⟨z5, hz5⟩ : ∃ y9 : gM, y9 = f_r_saves z1 := ⟨_, rfl⟩
    have hf := hf.trans (g_let_eq hz5)
    have hok := g_let_p hz5 hok
    have hmz5 : gMv l yX3_saves wsX3_saves rm_r_saves G shM q z1 h [.ref (q 0)] z5 h := by rw [hz5]; exact c_r_saves l G q z1 h s4
    refine x_callVv (n := 0) C hq gFr_same (hmz5) (cwV 0 C.2.2.2.2.2.1 gX3_tidy_X3_saves rfl rfl rfl (by decide +kernel) ⟨Nat.le_of_ble_eq_true rfl, Nat.le_of_ble_eq_true rfl⟩) rfl rfl rfl rfl (Nat.le_of_ble_eq_true rfl) dX3_tidy_22 (Nat.zero_le _) (Nat.zero_le _) ?_
    refine x_aload_n C dX3_tidy_25 rfl 0 rfl ?_
    refine x_get (v := .ref (q 1)) C in_X3_tidy_3 0 rfl rfl 0 (by decide) k_X3_tidy_7 rfl rfl dX3_tidy_26 ?_
    refine x_sipush (v := (362 : Int32)) C dX3_tidy_29 (by decide) ?_
    refine x_iald (n := 364) (v := (z5 1 (362 : Int32).toNatClampNeg)) C 1 rfl (by unfold vp_in; decide) rfl dX3_tidy_32 ?_
    obtain ⟨z6, hz6⟩ : ∃ y9 : Int32, y9 = (z5 1 (362 : Int32).toNatClampNeg) := ⟨_, rfl⟩
    have hf := hf.trans (g_let_eq hz6)
    have hok := g_let_p hz6 hok
    refine x_topi hz6 ?_
    refine x_istore_n (lv' := [(0, .ref (q 0)), (1, .int a1), (2, .int z6)]) C dX3_tidy_33 rfl (by decide) [1, 2, 0] rfl ?_
    refine x_aload_n C dX3_tidy_34 rfl 0 rfl ?_
    refine x_get (v := .ref (q 1)) C in_X3_tidy_3 0 rfl rfl 0 (by decide) k_X3_tidy_7 rfl rfl dX3_tidy_35 ?_
    refine x_iload_n C dX3_tidy_38 rfl 1 rfl ?_
    have s7 := And.left hok
    have hok := And.right hok
    obtain ⟨z8, hz8⟩ : ∃ y9 : Int32 × gM, y9 = f_r_frees (g_sel [1] z5) a1 := ⟨_, rfl⟩
    have hf := hf.trans (g_let_eq hz8)
    have hok := g_let_p hz8 hok
    have hmz8 : gMi l yX3_frees wsX3_frees rm_r_frees G shr (g_sel [1] q) (g_sel [1] z5) (g_sel [1] h) [.ref ((g_sel [1] q) 0), .int a1] z8.2 (g_sel [1] h) z8.1 := by rw [hz8]; exact c_r_frees l G (g_sel [1] q) (g_sel [1] z5) (g_sel [1] h) a1 s7
    refine x_callSi (n := 2) C hq (gFr_sub gs_M_r_1) (hmz8) (va_cwS 2 C.2.2.2.2.2.1 gX3_tidy_X3_frees rfl rfl rfl (by decide +kernel) ⟨Nat.le_of_ble_eq_true rfl, Nat.le_of_ble_eq_true rfl⟩) rfl rfl (Nat.le_of_ble_eq_true rfl) dX3_tidy_39 (Nat.zero_le _) (Nat.zero_le _) ?_
    obtain ⟨z9, hz9⟩ : ∃ y9 : gM, y9 = g_mrg [1] z5 z8.2 := ⟨_, rfl⟩
    have hf := hf.trans (g_let_eq hz9)
    have hok := g_let_p hz9 hok
    refine x_mu hz9 (g_mrg_id gs_M_r_1.1) ?_
    refine x_istore_n (lv' := [(0, .ref (q 0)), (1, .int a1), (2, .int z6), (3, .int z8.1)]) C dX3_tidy_42 rfl (by decide) [1, 2, 3, 0] rfl ?_
    refine x_iload_n C dX3_tidy_43 rfl 3 rfl ?_
    refine x_if_ge (tgt := 51) C dX3_tidy_44 (by decide) (fun c10 => ?_) (fun c10 => ?_)
    · have hf := hf.trans (if_pos c10)
      have hok := g_ip c10 hok
      refine x_aload_n C dX3_tidy_51 rfl 0 rfl ?_
      refine x_get (v := .ref (q 1)) C in_X3_tidy_3 0 rfl rfl 0 (by decide) k_X3_tidy_7 rfl rfl dX3_tidy_52 ?_
      refine x_sipush (v := (362 : Int32)) C dX3_tidy_55 (by decide) ?_
      refine x_iald (n := 364) (v := (z9 1 (362 : Int32).toNatClampNeg)) C 1 rfl (by unfold vp_in; decide) rfl dX3_tidy_58 ?_
      refine x_iload_n C dX3_tidy_59 rfl 2 rfl ?_
      refine x_isub C dX3_tidy_60 ?_
      exact g_iret C hr rfl dX3_tidy_61 (congrArg (fun z => z.1) hf).symm (congrArg (fun z => z.2) hf).symm rfl
    · have hf := hf.trans (if_neg c10)
      have hok := g_in c10 hok
      refine x_iload_n C dX3_tidy_47 rfl 3 rfl ?_
      refine x_goto (tgt := 61) C dX3_tidy_48 (by decide) ?_
      exact g_iret C hr rfl dX3_tidy_61 (congrArg (fun z => z.1) hf).symm (congrArg (fun z => z.2) hf).symm rfl
  · have hf := hf.trans (if_pos c3)
    have hok := g_ip c3 hok
    refine x_aload_n C dX3_tidy_15 rfl 0 rfl ?_
    refine x_iconst (v := (1 : Int32)) C dX3_tidy_16 (by decide) ?_
    have s11 := And.left hok
    have hok := And.right hok
    obtain ⟨z12, hz12⟩ : ∃ y9 : Int32 × gM, y9 = f_r_fails z1 (1 : Int32) := ⟨_, rfl⟩
    have hf := hf.trans (g_let_eq hz12)
    have hok := g_let_p hz12 hok
    have hmz12 : gMi l yX3_fails wsX3_fails rm_r_fails G shM q z1 h [.ref (q 0), .int (1 : Int32)] z12.2 h z12.1 := by rw [hz12]; exact c_r_fails l G q z1 h (1 : Int32) s11
    refine x_callVi (n := 1) C hq gFr_same (hmz12) (cwV 1 C.2.2.2.2.2.1 gX3_tidy_X3_fails rfl rfl rfl (by decide +kernel) ⟨Nat.le_of_ble_eq_true rfl, Nat.le_of_ble_eq_true rfl⟩) rfl rfl rfl rfl (Nat.le_of_ble_eq_true rfl) dX3_tidy_17 (Nat.zero_le _) (Nat.zero_le _) ?_
    exact g_iret C hr rfl dX3_tidy_20 (congrArg (fun z => z.1) hf).symm (congrArg (fun z => z.2) hf).symm rfl
set_option maxRecDepth 20000 in
theorem in_X3_set_3 : ∀ w ∈ u_ws RX3 TX3 12, w ∈ wsX3_set := by decide +kernel
set_option maxRecDepth 20000 in
theorem k_X3_set_25 : Cond.fieldLink RX3 25 "HintedPagesModel" "thrown" "I" ∈ wsX3_set := by decide +kernel
set_option maxRecDepth 20000 in
theorem k_X3_set_7 : Cond.fieldLink RX3 7 "HintedPagesModel" "now" "[I" ∈ wsX3_set := by decide +kernel
abbrev rm_r_set : Room := { frames := 2, cells := 0, slots := 0, locals := 45 }
noncomputable def f_r_set (m : gM) (a1 : Int32) (a2 : Int32) : Int32 × gM := g_let (g_set m 0 (upd (m 0) 6 (0 : Int32))) (fun z1 : gM => (if (f_r_in a1 (0 : Int32) (1 : Int32)) = 0 then g_let (f_r_fails z1 (1 : Int32)) (fun z26 : Int32 × gM => (z26.1, z26.2)) else (if a1 = 0 then (if (f_r_in a2 (0 : Int32) (2 : Int32)) = 0 then g_let (f_r_fails z1 (2 : Int32)) (fun z24 : Int32 × gM => (z24.1, z24.2)) else g_let (f_r_saves z1) (fun z18 : gM => g_let ((z18 1 ((358 : Int32) + a1).toNatClampNeg)) (fun z20 : Int32 => g_let (g_set z18 1 (upd (z18 1) ((358 : Int32) + a1).toNatClampNeg a2)) (fun z22 : gM => (z20, z22))))) else (if (f_r_in a2 (2 : Int32) (4 : Int32)) = 0 then g_let (f_r_fails z1 (2 : Int32)) (fun z14 : Int32 × gM => (z14.1, z14.2)) else g_let (f_r_saves z1) (fun z8 : gM => g_let ((z8 1 ((358 : Int32) + a1).toNatClampNeg)) (fun z10 : Int32 => g_let (g_set z8 1 (upd (z8 1) ((358 : Int32) + a1).toNatClampNeg a2)) (fun z12 : gM => (z10, z12))))))))
noncomputable def o_r_set (m : gM) (a1 : Int32) (a2 : Int32) : Prop := g_let (g_set m 0 (upd (m 0) 6 (0 : Int32))) (fun z1 : gM => (o_r_in a1 (0 : Int32) (1 : Int32)) ∧ ((if (f_r_in a1 (0 : Int32) (1 : Int32)) = 0 then (o_r_fails z1 (1 : Int32)) ∧ (g_let (f_r_fails z1 (1 : Int32)) (fun z26 : Int32 × gM => True)) else (if a1 = 0 then (o_r_in a2 (0 : Int32) (2 : Int32)) ∧ ((if (f_r_in a2 (0 : Int32) (2 : Int32)) = 0 then (o_r_fails z1 (2 : Int32)) ∧ (g_let (f_r_fails z1 (2 : Int32)) (fun z24 : Int32 × gM => True)) else (o_r_saves z1) ∧ (g_let (f_r_saves z1) (fun z18 : gM => (vp_in ((358 : Int32) + a1) 364) ∧ (g_let ((z18 1 ((358 : Int32) + a1).toNatClampNeg)) (fun z20 : Int32 => (vp_in ((358 : Int32) + a1) 364) ∧ (g_let (g_set z18 1 (upd (z18 1) ((358 : Int32) + a1).toNatClampNeg a2)) (fun z22 : gM => True)))))))) else (o_r_in a2 (2 : Int32) (4 : Int32)) ∧ ((if (f_r_in a2 (2 : Int32) (4 : Int32)) = 0 then (o_r_fails z1 (2 : Int32)) ∧ (g_let (f_r_fails z1 (2 : Int32)) (fun z14 : Int32 × gM => True)) else (o_r_saves z1) ∧ (g_let (f_r_saves z1) (fun z8 : gM => (vp_in ((358 : Int32) + a1) 364) ∧ (g_let ((z8 1 ((358 : Int32) + a1).toNatClampNeg)) (fun z10 : Int32 => (vp_in ((358 : Int32) + a1) 364) ∧ (g_let (g_set z8 1 (upd (z8 1) ((358 : Int32) + a1).toNatClampNeg a2)) (fun z12 : gM => True))))))))))))
set_option maxRecDepth 100000 in
set_option maxHeartbeats 4000000 in
theorem c_r_set (l : Launch) (G : gG) (q : Nat → Nat) (m : gM) (h : gN) (a1 : Int32) (a2 : Int32) (hok : o_r_set m a1 a2) : gMi l yX3_set wsX3_set rm_r_set G shM q m h [.ref (q 0), .int a1, .int a2] ((f_r_set m a1 a2).2) h ((f_r_set m a1 a2).1) := by
  intro sz
  refine g_met (cc := cX3_set) (maxL := 4) (ret := (some .int)) (own := RX3) (Qc := fun sz => gQi G shM q ((f_r_set m a1 a2).2) h sz ((f_r_set m a1 a2).1)) (by decide) rfl rfl (Nat.le_of_ble_eq_true rfl) (fun p e s m9 below meth c C hq hr => ?_)
  refine x_lv (lv' := [(0, .ref (q 0)), (1, .int a1), (2, .int a2)]) [0, 1, 2] rfl ?_
  have hf := f_r_set.eq_1 m a1 a2
  have hok := Eq.mp (o_r_set.eq_1 m a1 a2) hok
  refine x_aload_n C dX3_set_0 rfl 0 rfl ?_
  refine x_iconst (v := (0 : Int32)) C dX3_set_1 (by decide) ?_
  obtain ⟨z1, hz1⟩ : ∃ y9 : gM, y9 = g_set m 0 (upd (m 0) 6 (0 : Int32)) := ⟨_, rfl⟩
  have hf := hf.trans (g_let_eq hz1)
  have hok := g_let_p hz1 hok
  refine x_puti (μ' := z1) (ty := .int) C hq tyX3 tyX3_ok nmX3 in_X3_set_3 0 rfl rfl 6 (by decide) k_X3_set_25 rfl (tyX3_ok 6 (by decide)) rfl rfl rfl hz1 dX3_set_2 ?_
  refine x_iload_n C dX3_set_5 rfl 1 rfl ?_
  refine x_iconst (v := (0 : Int32)) C dX3_set_6 (by decide) ?_
  refine x_iconst (v := (1 : Int32)) C dX3_set_7 (by decide) ?_
  have s2 := And.left hok
  have hok := And.right hok
  refine x_callSi (n := 3) C hq (gFr_pure gs_M_0_) (c_r_in l G (g_sel [] q) (g_sel [] z1) (g_sel [] h) a1 (0 : Int32) (1 : Int32) s2) (va_cwS 3 C.2.2.2.2.2.1 gX3_set_X3_in rfl rfl rfl (by decide +kernel) ⟨Nat.le_of_ble_eq_true rfl, Nat.le_of_ble_eq_true rfl⟩) rfl rfl (Nat.le_of_ble_eq_true rfl) dX3_set_8 (Nat.zero_le _) (Nat.zero_le _) ?_
  refine x_if_ne (tgt := 20) C dX3_set_11 (by decide) (fun c3 => ?_) (fun c3 => ?_)
  · have hf := hf.trans (if_neg c3)
    have hok := g_in c3 hok
    refine x_iload_n C dX3_set_20 rfl 1 rfl ?_
    refine x_if_ne (tgt := 36) C dX3_set_21 (by decide) (fun c4 => ?_) (fun c4 => ?_)
    · have hf := hf.trans (if_neg c4)
      have hok := g_in c4 hok
      refine x_iload_n C dX3_set_36 rfl 2 rfl ?_
      refine x_iconst (v := (2 : Int32)) C dX3_set_37 (by decide) ?_
      refine x_iconst (v := (4 : Int32)) C dX3_set_38 (by decide) ?_
      have s5 := And.left hok
      have hok := And.right hok
      refine x_callSi (n := 3) C hq (gFr_pure gs_M_0_) (c_r_in l G (g_sel [] q) (g_sel [] z1) (g_sel [] h) a2 (2 : Int32) (4 : Int32) s5) (va_cwS 3 C.2.2.2.2.2.1 gX3_set_X3_in rfl rfl rfl (by decide +kernel) ⟨Nat.le_of_ble_eq_true rfl, Nat.le_of_ble_eq_true rfl⟩) rfl rfl (Nat.le_of_ble_eq_true rfl) dX3_set_39 (Nat.zero_le _) (Nat.zero_le _) ?_
      refine x_if_ne (tgt := 51) C dX3_set_42 (by decide) (fun c6 => ?_) (fun c6 => ?_)
      · have hf := hf.trans (if_neg c6)
        have hok := g_in c6 hok
        refine x_aload_n C dX3_set_51 rfl 0 rfl ?_
        have s7 := And.left hok
        have hok := And.right hok
        obtain ⟨z8, hz8⟩ : ∃ y9 : gM, y9 = f_r_saves z1 := ⟨_, rfl⟩
        have hf := hf.trans (g_let_eq hz8)
        have hok := g_let_p hz8 hok
        have hmz8 : gMv l yX3_saves wsX3_saves rm_r_saves G shM q z1 h [.ref (q 0)] z8 h := by rw [hz8]; exact c_r_saves l G q z1 h s7
        refine x_callVv (n := 0) C hq gFr_same (hmz8) (cwV 0 C.2.2.2.2.2.1 gX3_set_X3_saves rfl rfl rfl (by decide +kernel) ⟨Nat.le_of_ble_eq_true rfl, Nat.le_of_ble_eq_true rfl⟩) rfl rfl rfl rfl (Nat.le_of_ble_eq_true rfl) dX3_set_52 (Nat.zero_le _) (Nat.zero_le _) ?_
        refine x_aload_n C dX3_set_55 rfl 0 rfl ?_
        refine x_get (v := .ref (q 1)) C in_X3_set_3 0 rfl rfl 0 (by decide) k_X3_set_7 rfl rfl dX3_set_56 ?_
        refine x_sipush (v := (358 : Int32)) C dX3_set_59 (by decide) ?_
        refine x_iload_n C dX3_set_62 rfl 1 rfl ?_
        refine x_iadd C dX3_set_63 ?_
        have s9 := And.left hok
        have hok := And.right hok
        refine x_iald (n := 364) (v := (z8 1 ((358 : Int32) + a1).toNatClampNeg)) C 1 rfl s9 rfl dX3_set_64 ?_
        obtain ⟨z10, hz10⟩ : ∃ y9 : Int32, y9 = (z8 1 ((358 : Int32) + a1).toNatClampNeg) := ⟨_, rfl⟩
        have hf := hf.trans (g_let_eq hz10)
        have hok := g_let_p hz10 hok
        refine x_topi hz10 ?_
        refine x_istore_n (lv' := [(0, .ref (q 0)), (1, .int a1), (2, .int a2), (3, .int z10)]) C dX3_set_65 rfl (by decide) [1, 2, 3, 0] rfl ?_
        refine x_aload_n C dX3_set_66 rfl 0 rfl ?_
        refine x_get (v := .ref (q 1)) C in_X3_set_3 0 rfl rfl 0 (by decide) k_X3_set_7 rfl rfl dX3_set_67 ?_
        refine x_sipush (v := (358 : Int32)) C dX3_set_70 (by decide) ?_
        refine x_iload_n C dX3_set_73 rfl 1 rfl ?_
        refine x_iadd C dX3_set_74 ?_
        refine x_iload_n C dX3_set_75 rfl 2 rfl ?_
        have s11 := And.left hok
        have hok := And.right hok
        obtain ⟨z12, hz12⟩ : ∃ y9 : gM, y9 = g_set z8 1 (upd (z8 1) ((358 : Int32) + a1).toNatClampNeg a2) := ⟨_, rfl⟩
        have hf := hf.trans (g_let_eq hz12)
        have hok := g_let_p hz12 hok
        refine x_iast (μ' := z12) (n := 364) C hq 1 rfl s11 hz12 dX3_set_76 ?_
        refine x_iload_n C dX3_set_77 rfl 3 rfl ?_
        exact g_iret C hr rfl dX3_set_78 (congrArg (fun z => z.1) hf).symm (congrArg (fun z => z.2) hf).symm rfl
      · have hf := hf.trans (if_pos c6)
        have hok := g_ip c6 hok
        refine x_aload_n C dX3_set_45 rfl 0 rfl ?_
        refine x_iconst (v := (2 : Int32)) C dX3_set_46 (by decide) ?_
        have s13 := And.left hok
        have hok := And.right hok
        obtain ⟨z14, hz14⟩ : ∃ y9 : Int32 × gM, y9 = f_r_fails z1 (2 : Int32) := ⟨_, rfl⟩
        have hf := hf.trans (g_let_eq hz14)
        have hok := g_let_p hz14 hok
        have hmz14 : gMi l yX3_fails wsX3_fails rm_r_fails G shM q z1 h [.ref (q 0), .int (2 : Int32)] z14.2 h z14.1 := by rw [hz14]; exact c_r_fails l G q z1 h (2 : Int32) s13
        refine x_callVi (n := 1) C hq gFr_same (hmz14) (cwV 1 C.2.2.2.2.2.1 gX3_set_X3_fails rfl rfl rfl (by decide +kernel) ⟨Nat.le_of_ble_eq_true rfl, Nat.le_of_ble_eq_true rfl⟩) rfl rfl rfl rfl (Nat.le_of_ble_eq_true rfl) dX3_set_47 (Nat.zero_le _) (Nat.zero_le _) ?_
        exact g_iret C hr rfl dX3_set_50 (congrArg (fun z => z.1) hf).symm (congrArg (fun z => z.2) hf).symm rfl
    · have hf := hf.trans (if_pos c4)
      have hok := g_ip c4 hok
      refine x_iload_n C dX3_set_24 rfl 2 rfl ?_
      refine x_iconst (v := (0 : Int32)) C dX3_set_25 (by decide) ?_
      refine x_iconst (v := (2 : Int32)) C dX3_set_26 (by decide) ?_
      have s15 := And.left hok
      have hok := And.right hok
      refine x_callSi (n := 3) C hq (gFr_pure gs_M_0_) (c_r_in l G (g_sel [] q) (g_sel [] z1) (g_sel [] h) a2 (0 : Int32) (2 : Int32) s15) (va_cwS 3 C.2.2.2.2.2.1 gX3_set_X3_in rfl rfl rfl (by decide +kernel) ⟨Nat.le_of_ble_eq_true rfl, Nat.le_of_ble_eq_true rfl⟩) rfl rfl (Nat.le_of_ble_eq_true rfl) dX3_set_27 (Nat.zero_le _) (Nat.zero_le _) ?_
      refine x_if_ne (tgt := 51) C dX3_set_30 (by decide) (fun c16 => ?_) (fun c16 => ?_)
      · have hf := hf.trans (if_neg c16)
        have hok := g_in c16 hok
        refine x_aload_n C dX3_set_51 rfl 0 rfl ?_
        have s17 := And.left hok
        have hok := And.right hok
        obtain ⟨z18, hz18⟩ : ∃ y9 : gM, y9 = f_r_saves z1 := ⟨_, rfl⟩
        have hf := hf.trans (g_let_eq hz18)
        have hok := g_let_p hz18 hok
        have hmz18 : gMv l yX3_saves wsX3_saves rm_r_saves G shM q z1 h [.ref (q 0)] z18 h := by rw [hz18]; exact c_r_saves l G q z1 h s17
        refine x_callVv (n := 0) C hq gFr_same (hmz18) (cwV 0 C.2.2.2.2.2.1 gX3_set_X3_saves rfl rfl rfl (by decide +kernel) ⟨Nat.le_of_ble_eq_true rfl, Nat.le_of_ble_eq_true rfl⟩) rfl rfl rfl rfl (Nat.le_of_ble_eq_true rfl) dX3_set_52 (Nat.zero_le _) (Nat.zero_le _) ?_
        refine x_aload_n C dX3_set_55 rfl 0 rfl ?_
        refine x_get (v := .ref (q 1)) C in_X3_set_3 0 rfl rfl 0 (by decide) k_X3_set_7 rfl rfl dX3_set_56 ?_
        refine x_sipush (v := (358 : Int32)) C dX3_set_59 (by decide) ?_
        refine x_iload_n C dX3_set_62 rfl 1 rfl ?_
        refine x_iadd C dX3_set_63 ?_
        have s19 := And.left hok
        have hok := And.right hok
        refine x_iald (n := 364) (v := (z18 1 ((358 : Int32) + a1).toNatClampNeg)) C 1 rfl s19 rfl dX3_set_64 ?_
        obtain ⟨z20, hz20⟩ : ∃ y9 : Int32, y9 = (z18 1 ((358 : Int32) + a1).toNatClampNeg) := ⟨_, rfl⟩
        have hf := hf.trans (g_let_eq hz20)
        have hok := g_let_p hz20 hok
        refine x_topi hz20 ?_
        refine x_istore_n (lv' := [(0, .ref (q 0)), (1, .int a1), (2, .int a2), (3, .int z20)]) C dX3_set_65 rfl (by decide) [1, 2, 3, 0] rfl ?_
        refine x_aload_n C dX3_set_66 rfl 0 rfl ?_
        refine x_get (v := .ref (q 1)) C in_X3_set_3 0 rfl rfl 0 (by decide) k_X3_set_7 rfl rfl dX3_set_67 ?_
        refine x_sipush (v := (358 : Int32)) C dX3_set_70 (by decide) ?_
        refine x_iload_n C dX3_set_73 rfl 1 rfl ?_
        refine x_iadd C dX3_set_74 ?_
        refine x_iload_n C dX3_set_75 rfl 2 rfl ?_
        have s21 := And.left hok
        have hok := And.right hok
        obtain ⟨z22, hz22⟩ : ∃ y9 : gM, y9 = g_set z18 1 (upd (z18 1) ((358 : Int32) + a1).toNatClampNeg a2) := ⟨_, rfl⟩
        have hf := hf.trans (g_let_eq hz22)
        have hok := g_let_p hz22 hok
        refine x_iast (μ' := z22) (n := 364) C hq 1 rfl s21 hz22 dX3_set_76 ?_
        refine x_iload_n C dX3_set_77 rfl 3 rfl ?_
        exact g_iret C hr rfl dX3_set_78 (congrArg (fun z => z.1) hf).symm (congrArg (fun z => z.2) hf).symm rfl
      · have hf := hf.trans (if_pos c16)
        have hok := g_ip c16 hok
        refine x_goto (tgt := 45) C dX3_set_33 (by decide) ?_
        refine x_aload_n C dX3_set_45 rfl 0 rfl ?_
        refine x_iconst (v := (2 : Int32)) C dX3_set_46 (by decide) ?_
        have s23 := And.left hok
        have hok := And.right hok
        obtain ⟨z24, hz24⟩ : ∃ y9 : Int32 × gM, y9 = f_r_fails z1 (2 : Int32) := ⟨_, rfl⟩
        have hf := hf.trans (g_let_eq hz24)
        have hok := g_let_p hz24 hok
        have hmz24 : gMi l yX3_fails wsX3_fails rm_r_fails G shM q z1 h [.ref (q 0), .int (2 : Int32)] z24.2 h z24.1 := by rw [hz24]; exact c_r_fails l G q z1 h (2 : Int32) s23
        refine x_callVi (n := 1) C hq gFr_same (hmz24) (cwV 1 C.2.2.2.2.2.1 gX3_set_X3_fails rfl rfl rfl (by decide +kernel) ⟨Nat.le_of_ble_eq_true rfl, Nat.le_of_ble_eq_true rfl⟩) rfl rfl rfl rfl (Nat.le_of_ble_eq_true rfl) dX3_set_47 (Nat.zero_le _) (Nat.zero_le _) ?_
        exact g_iret C hr rfl dX3_set_50 (congrArg (fun z => z.1) hf).symm (congrArg (fun z => z.2) hf).symm rfl
  · have hf := hf.trans (if_pos c3)
    have hok := g_ip c3 hok
    refine x_aload_n C dX3_set_14 rfl 0 rfl ?_
    refine x_iconst (v := (1 : Int32)) C dX3_set_15 (by decide) ?_
    have s25 := And.left hok
    have hok := And.right hok
    obtain ⟨z26, hz26⟩ : ∃ y9 : Int32 × gM, y9 = f_r_fails z1 (1 : Int32) := ⟨_, rfl⟩
    have hf := hf.trans (g_let_eq hz26)
    have hok := g_let_p hz26 hok
    have hmz26 : gMi l yX3_fails wsX3_fails rm_r_fails G shM q z1 h [.ref (q 0), .int (1 : Int32)] z26.2 h z26.1 := by rw [hz26]; exact c_r_fails l G q z1 h (1 : Int32) s25
    refine x_callVi (n := 1) C hq gFr_same (hmz26) (cwV 1 C.2.2.2.2.2.1 gX3_set_X3_fails rfl rfl rfl (by decide +kernel) ⟨Nat.le_of_ble_eq_true rfl, Nat.le_of_ble_eq_true rfl⟩) rfl rfl rfl rfl (Nat.le_of_ble_eq_true rfl) dX3_set_16 (Nat.zero_le _) (Nat.zero_le _) ?_
    exact g_iret C hr rfl dX3_set_19 (congrArg (fun z => z.1) hf).symm (congrArg (fun z => z.2) hf).symm rfl
set_option maxRecDepth 20000 in
theorem in_X3_append_3 : ∀ w ∈ u_ws RX3 TX3 12, w ∈ wsX3_append := by decide +kernel
set_option maxRecDepth 20000 in
theorem k_X3_append_19 : Cond.fieldLink RX3 19 "HintedPagesModel" "text" "[I" ∈ wsX3_append := by decide +kernel
set_option maxRecDepth 20000 in
theorem k_X3_append_25 : Cond.fieldLink RX3 25 "HintedPagesModel" "thrown" "I" ∈ wsX3_append := by decide +kernel
set_option maxRecDepth 20000 in
theorem k_X3_append_98 : Cond.fieldLink RX3 98 "HintedPagesModel" "typed" "I" ∈ wsX3_append := by decide +kernel
abbrev rm_r_append : Room := { frames := 1, cells := 0, slots := 0, locals := 22 }
noncomputable def f_r_append (m : gM) (a1 : Int32) : Int32 × gM := g_let (g_set m 0 (upd (m 0) 6 (0 : Int32))) (fun z1 : gM => (if (f_r_in a1 (33 : Int32) (126 : Int32)) = 0 then g_let (f_r_fails z1 (1 : Int32)) (fun z11 : Int32 × gM => (z11.1, z11.2)) else (if (z1 0 5) = (60 : Int32) then g_let (f_r_fails z1 (2 : Int32)) (fun z9 : Int32 × gM => (z9.1, z9.2)) else g_let (g_set z1 4 (upd (z1 4) (z1 0 5).toNatClampNeg a1)) (fun z6 : gM => g_let (g_set z6 0 (upd (z6 0) 5 ((z6 0 5) + (1 : Int32)))) (fun z7 : gM => ((z7 0 5), z7))))))
noncomputable def o_r_append (m : gM) (a1 : Int32) : Prop := g_let (g_set m 0 (upd (m 0) 6 (0 : Int32))) (fun z1 : gM => (o_r_in a1 (33 : Int32) (126 : Int32)) ∧ ((if (f_r_in a1 (33 : Int32) (126 : Int32)) = 0 then (o_r_fails z1 (1 : Int32)) ∧ (g_let (f_r_fails z1 (1 : Int32)) (fun z11 : Int32 × gM => True)) else (if (z1 0 5) = (60 : Int32) then (o_r_fails z1 (2 : Int32)) ∧ (g_let (f_r_fails z1 (2 : Int32)) (fun z9 : Int32 × gM => True)) else (vp_in (z1 0 5) 60) ∧ (g_let (g_set z1 4 (upd (z1 4) (z1 0 5).toNatClampNeg a1)) (fun z6 : gM => g_let (g_set z6 0 (upd (z6 0) 5 ((z6 0 5) + (1 : Int32)))) (fun z7 : gM => True)))))))
set_option maxRecDepth 100000 in
set_option maxHeartbeats 4000000 in
theorem c_r_append (l : Launch) (G : gG) (q : Nat → Nat) (m : gM) (h : gN) (a1 : Int32) (hok : o_r_append m a1) : gMi l yX3_append wsX3_append rm_r_append G shM q m h [.ref (q 0), .int a1] ((f_r_append m a1).2) h ((f_r_append m a1).1) := by
  intro sz
  refine g_met (cc := cX3_append) (maxL := 2) (ret := (some .int)) (own := RX3) (Qc := fun sz => gQi G shM q ((f_r_append m a1).2) h sz ((f_r_append m a1).1)) (by decide) rfl rfl (Nat.le_of_ble_eq_true rfl) (fun p e s m9 below meth c C hq hr => ?_)
  refine x_lv (lv' := [(0, .ref (q 0)), (1, .int a1)]) [0, 1] rfl ?_
  have hf := f_r_append.eq_1 m a1
  have hok := Eq.mp (o_r_append.eq_1 m a1) hok
  refine x_aload_n C dX3_append_0 rfl 0 rfl ?_
  refine x_iconst (v := (0 : Int32)) C dX3_append_1 (by decide) ?_
  obtain ⟨z1, hz1⟩ : ∃ y9 : gM, y9 = g_set m 0 (upd (m 0) 6 (0 : Int32)) := ⟨_, rfl⟩
  have hf := hf.trans (g_let_eq hz1)
  have hok := g_let_p hz1 hok
  refine x_puti (μ' := z1) (ty := .int) C hq tyX3 tyX3_ok nmX3 in_X3_append_3 0 rfl rfl 6 (by decide) k_X3_append_25 rfl (tyX3_ok 6 (by decide)) rfl rfl rfl hz1 dX3_append_2 ?_
  refine x_iload_n C dX3_append_5 rfl 1 rfl ?_
  refine x_bipush (v := (33 : Int32)) C dX3_append_6 (by decide) ?_
  refine x_bipush (v := (126 : Int32)) C dX3_append_8 (by decide) ?_
  have s2 := And.left hok
  have hok := And.right hok
  refine x_callSi (n := 3) C hq (gFr_pure gs_M_0_) (c_r_in l G (g_sel [] q) (g_sel [] z1) (g_sel [] h) a1 (33 : Int32) (126 : Int32) s2) (va_cwS 3 C.2.2.2.2.2.1 gX3_append_X3_in rfl rfl rfl (by decide +kernel) ⟨Nat.le_of_ble_eq_true rfl, Nat.le_of_ble_eq_true rfl⟩) rfl rfl (Nat.le_of_ble_eq_true rfl) dX3_append_10 (Nat.zero_le _) (Nat.zero_le _) ?_
  refine x_if_ne (tgt := 22) C dX3_append_13 (by decide) (fun c3 => ?_) (fun c3 => ?_)
  · have hf := hf.trans (if_neg c3)
    have hok := g_in c3 hok
    refine x_aload_n C dX3_append_22 rfl 0 rfl ?_
    refine x_get (v := .int (z1 0 5)) C in_X3_append_3 0 rfl rfl 5 (by decide) k_X3_append_98 rfl rfl dX3_append_23 ?_
    refine x_bipush (v := (60 : Int32)) C dX3_append_26 (by decide) ?_
    refine x_icmp_ne (tgt := 37) C dX3_append_28 (by decide) (fun c4 => ?_) (fun c4 => ?_)
    · have hf := hf.trans (if_neg c4)
      have hok := g_in c4 hok
      refine x_aload_n C dX3_append_37 rfl 0 rfl ?_
      refine x_get (v := .ref (q 4)) C in_X3_append_3 0 rfl rfl 4 (by decide) k_X3_append_19 rfl rfl dX3_append_38 ?_
      refine x_aload_n C dX3_append_41 rfl 0 rfl ?_
      refine x_get (v := .int (z1 0 5)) C in_X3_append_3 0 rfl rfl 5 (by decide) k_X3_append_98 rfl rfl dX3_append_42 ?_
      refine x_iload_n C dX3_append_45 rfl 1 rfl ?_
      have s5 := And.left hok
      have hok := And.right hok
      obtain ⟨z6, hz6⟩ : ∃ y9 : gM, y9 = g_set z1 4 (upd (z1 4) (z1 0 5).toNatClampNeg a1) := ⟨_, rfl⟩
      have hf := hf.trans (g_let_eq hz6)
      have hok := g_let_p hz6 hok
      refine x_iast (μ' := z6) (n := 60) C hq 4 rfl s5 hz6 dX3_append_46 ?_
      refine x_aload_n C dX3_append_47 rfl 0 rfl ?_
      refine x_dup C dX3_append_48 rfl ?_
      refine x_get (v := .int (z6 0 5)) C in_X3_append_3 0 rfl rfl 5 (by decide) k_X3_append_98 rfl rfl dX3_append_49 ?_
      refine x_iconst (v := (1 : Int32)) C dX3_append_52 (by decide) ?_
      refine x_iadd C dX3_append_53 ?_
      obtain ⟨z7, hz7⟩ : ∃ y9 : gM, y9 = g_set z6 0 (upd (z6 0) 5 ((z6 0 5) + (1 : Int32))) := ⟨_, rfl⟩
      have hf := hf.trans (g_let_eq hz7)
      have hok := g_let_p hz7 hok
      refine x_puti (μ' := z7) (ty := .int) C hq tyX3 tyX3_ok nmX3 in_X3_append_3 0 rfl rfl 5 (by decide) k_X3_append_98 rfl (tyX3_ok 5 (by decide)) rfl rfl rfl hz7 dX3_append_54 ?_
      refine x_aload_n C dX3_append_57 rfl 0 rfl ?_
      refine x_get (v := .int (z7 0 5)) C in_X3_append_3 0 rfl rfl 5 (by decide) k_X3_append_98 rfl rfl dX3_append_58 ?_
      exact g_iret C hr rfl dX3_append_61 (congrArg (fun z => z.1) hf).symm (congrArg (fun z => z.2) hf).symm rfl
    · have hf := hf.trans (if_pos c4)
      have hok := g_ip c4 hok
      refine x_aload_n C dX3_append_31 rfl 0 rfl ?_
      refine x_iconst (v := (2 : Int32)) C dX3_append_32 (by decide) ?_
      have s8 := And.left hok
      have hok := And.right hok
      obtain ⟨z9, hz9⟩ : ∃ y9 : Int32 × gM, y9 = f_r_fails z1 (2 : Int32) := ⟨_, rfl⟩
      have hf := hf.trans (g_let_eq hz9)
      have hok := g_let_p hz9 hok
      have hmz9 : gMi l yX3_fails wsX3_fails rm_r_fails G shM q z1 h [.ref (q 0), .int (2 : Int32)] z9.2 h z9.1 := by rw [hz9]; exact c_r_fails l G q z1 h (2 : Int32) s8
      refine x_callVi (n := 1) C hq gFr_same (hmz9) (cwV 1 C.2.2.2.2.2.1 gX3_append_X3_fails rfl rfl rfl (by decide +kernel) ⟨Nat.le_of_ble_eq_true rfl, Nat.le_of_ble_eq_true rfl⟩) rfl rfl rfl rfl (Nat.le_of_ble_eq_true rfl) dX3_append_33 (Nat.zero_le _) (Nat.zero_le _) ?_
      exact g_iret C hr rfl dX3_append_36 (congrArg (fun z => z.1) hf).symm (congrArg (fun z => z.2) hf).symm rfl
  · have hf := hf.trans (if_pos c3)
    have hok := g_ip c3 hok
    refine x_aload_n C dX3_append_16 rfl 0 rfl ?_
    refine x_iconst (v := (1 : Int32)) C dX3_append_17 (by decide) ?_
    have s10 := And.left hok
    have hok := And.right hok
    obtain ⟨z11, hz11⟩ : ∃ y9 : Int32 × gM, y9 = f_r_fails z1 (1 : Int32) := ⟨_, rfl⟩
    have hf := hf.trans (g_let_eq hz11)
    have hok := g_let_p hz11 hok
    have hmz11 : gMi l yX3_fails wsX3_fails rm_r_fails G shM q z1 h [.ref (q 0), .int (1 : Int32)] z11.2 h z11.1 := by rw [hz11]; exact c_r_fails l G q z1 h (1 : Int32) s10
    refine x_callVi (n := 1) C hq gFr_same (hmz11) (cwV 1 C.2.2.2.2.2.1 gX3_append_X3_fails rfl rfl rfl (by decide +kernel) ⟨Nat.le_of_ble_eq_true rfl, Nat.le_of_ble_eq_true rfl⟩) rfl rfl rfl rfl (Nat.le_of_ble_eq_true rfl) dX3_append_18 (Nat.zero_le _) (Nat.zero_le _) ?_
    exact g_iret C hr rfl dX3_append_21 (congrArg (fun z => z.1) hf).symm (congrArg (fun z => z.2) hf).symm rfl
set_option maxRecDepth 20000 in
theorem in_X3_clearBuffer_3 : ∀ w ∈ u_ws RX3 TX3 12, w ∈ wsX3_clearBuffer := by decide +kernel
set_option maxRecDepth 20000 in
theorem k_X3_clearBuffer_25 : Cond.fieldLink RX3 25 "HintedPagesModel" "thrown" "I" ∈ wsX3_clearBuffer := by decide +kernel
set_option maxRecDepth 20000 in
theorem k_X3_clearBuffer_98 : Cond.fieldLink RX3 98 "HintedPagesModel" "typed" "I" ∈ wsX3_clearBuffer := by decide +kernel
abbrev rm_r_clearBuffer : Room := { frames := 0, cells := 0, slots := 0, locals := 0 }
noncomputable def f_r_clearBuffer (m : gM) : Int32 × gM := g_let (g_set m 0 (upd (m 0) 6 (0 : Int32))) (fun z1 : gM => g_let ((z1 0 5)) (fun z2 : Int32 => g_let (g_set z1 0 (upd (z1 0) 5 (0 : Int32))) (fun z3 : gM => (z2, z3))))
noncomputable def o_r_clearBuffer (m : gM) : Prop := g_let (g_set m 0 (upd (m 0) 6 (0 : Int32))) (fun z1 : gM => g_let ((z1 0 5)) (fun z2 : Int32 => g_let (g_set z1 0 (upd (z1 0) 5 (0 : Int32))) (fun z3 : gM => True)))
set_option maxRecDepth 100000 in
set_option maxHeartbeats 4000000 in
theorem c_r_clearBuffer (l : Launch) (G : gG) (q : Nat → Nat) (m : gM) (h : gN) (hok : o_r_clearBuffer m) : gMi l yX3_clearBuffer wsX3_clearBuffer rm_r_clearBuffer G shM q m h [.ref (q 0)] ((f_r_clearBuffer m).2) h ((f_r_clearBuffer m).1) := by
  intro sz
  refine g_met (cc := cX3_clearBuffer) (maxL := 2) (ret := (some .int)) (own := RX3) (Qc := fun sz => gQi G shM q ((f_r_clearBuffer m).2) h sz ((f_r_clearBuffer m).1)) (by decide) rfl rfl (Nat.le_of_ble_eq_true rfl) (fun p e s m9 below meth c C hq hr => ?_)
  refine x_lv (lv' := [(0, .ref (q 0))]) [0] rfl ?_
  have hf := f_r_clearBuffer.eq_1 m
  have hok := Eq.mp (o_r_clearBuffer.eq_1 m) hok
  refine x_aload_n C dX3_clearBuffer_0 rfl 0 rfl ?_
  refine x_iconst (v := (0 : Int32)) C dX3_clearBuffer_1 (by decide) ?_
  obtain ⟨z1, hz1⟩ : ∃ y9 : gM, y9 = g_set m 0 (upd (m 0) 6 (0 : Int32)) := ⟨_, rfl⟩
  have hf := hf.trans (g_let_eq hz1)
  have hok := g_let_p hz1 hok
  refine x_puti (μ' := z1) (ty := .int) C hq tyX3 tyX3_ok nmX3 in_X3_clearBuffer_3 0 rfl rfl 6 (by decide) k_X3_clearBuffer_25 rfl (tyX3_ok 6 (by decide)) rfl rfl rfl hz1 dX3_clearBuffer_2 ?_
  refine x_aload_n C dX3_clearBuffer_5 rfl 0 rfl ?_
  refine x_get (v := .int (z1 0 5)) C in_X3_clearBuffer_3 0 rfl rfl 5 (by decide) k_X3_clearBuffer_98 rfl rfl dX3_clearBuffer_6 ?_
  obtain ⟨z2, hz2⟩ : ∃ y9 : Int32, y9 = (z1 0 5) := ⟨_, rfl⟩
  have hf := hf.trans (g_let_eq hz2)
  have hok := g_let_p hz2 hok
  refine x_topi hz2 ?_
  refine x_istore_n (lv' := [(0, .ref (q 0)), (1, .int z2)]) C dX3_clearBuffer_9 rfl (by decide) [1, 0] rfl ?_
  refine x_aload_n C dX3_clearBuffer_10 rfl 0 rfl ?_
  refine x_iconst (v := (0 : Int32)) C dX3_clearBuffer_11 (by decide) ?_
  obtain ⟨z3, hz3⟩ : ∃ y9 : gM, y9 = g_set z1 0 (upd (z1 0) 5 (0 : Int32)) := ⟨_, rfl⟩
  have hf := hf.trans (g_let_eq hz3)
  have hok := g_let_p hz3 hok
  refine x_puti (μ' := z3) (ty := .int) C hq tyX3 tyX3_ok nmX3 in_X3_clearBuffer_3 0 rfl rfl 5 (by decide) k_X3_clearBuffer_98 rfl (tyX3_ok 5 (by decide)) rfl rfl rfl hz3 dX3_clearBuffer_12 ?_
  refine x_iload_n C dX3_clearBuffer_15 rfl 1 rfl ?_
  exact g_iret C hr rfl dX3_clearBuffer_16 (congrArg (fun z => z.1) hf).symm (congrArg (fun z => z.2) hf).symm rfl
