set_option maxRecDepth 20000 in
theorem kc_L_part_7 : Cond.constant RL 7 (2147483647) ∈ wsL_part := by decide +kernel
abbrev rm_l_part : Room := { frames := 0, cells := 0, slots := 0, locals := 0 }
noncomputable def f_l_part (a1 : Int32) (a2 : Int32) : Int32 := ((a1 &&& (2147483647 : Int32)) - (a1 &&& (2147483647 : Int32)) / a2 * a2)
noncomputable def o_l_part (a1 : Int32) (a2 : Int32) : Prop := (¬ a2 = 0) ∧ (True)
set_option maxRecDepth 100000 in
set_option maxHeartbeats 4000000 in
theorem c_l_part (l : Launch) (G : gG) (q : Nat → Nat) (m : gM) (h : gN) (a1 : Int32) (a2 : Int32) (hok : o_l_part a1 a2) : gMi l yL_part wsL_part rm_l_part G sh0 q m h [.int a1, .int a2] m h (f_l_part a1 a2) := by
  intro sz
  refine g_met (cc := cL_part) (maxL := 2) (ret := (some .int)) (own := RL) (Qc := fun sz => gQi G sh0 q m h sz (f_l_part a1 a2)) (by decide) rfl rfl (Nat.le_of_ble_eq_true rfl) (fun p e s m9 below meth c C hq hr => ?_)
  refine x_lv (lv' := [(0, .int a1), (1, .int a2)]) [0, 1] rfl ?_
  have hf := f_l_part.eq_1 a1 a2
  have hok := Eq.mp (o_l_part.eq_1 a1 a2) hok
  refine x_iload_n C dL_part_0 rfl 0 rfl ?_
  refine x_ldc (v := (2147483647 : Int32)) C kc_L_part_7 dL_part_1 ?_
  refine x_iand C dL_part_3 ?_
  refine x_iload_n C dL_part_4 rfl 1 rfl ?_
  have s1 := And.left hok
  have hok := And.right hok
  refine x_irem C dL_part_5 s1 ?_
  exact g_iret C hr rfl dL_part_6 hf.symm rfl rfl
set_option maxRecDepth 20000 in
theorem kc_L_seen_85 : Cond.constantLong RL 85 (7) ∈ wsL_seen := by decide +kernel
set_option maxRecDepth 20000 in
theorem kc_L_seen_87 : Cond.constantLong RL 87 (31) ∈ wsL_seen := by decide +kernel
abbrev rm_l_seen : Room := { frames := 4, cells := 0, slots := 0, locals := 90 }
noncomputable def L_l_seen_6 (m : gM) (z : Int64 × Int32) : Bool × (Int64 × Int32) := (if (11 : Int32) ≤ z.2 then (false, (z.1, z.2)) else g_let ((((31 : Int64) * z.1) + (f_h_count m z.2).toInt64)) (fun z3 : Int64 => g_let ((z.2 + (1 : Int32))) (fun z4 : Int32 => (true, (z3, z4)))))
noncomputable def K_l_seen_6 (m : gM) (z : Int64 × Int32) : Prop := (if (11 : Int32) ≤ z.2 then True else (o_h_count m z.2) ∧ (g_let ((((31 : Int64) * z.1) + (f_h_count m z.2).toInt64)) (fun z3 : Int64 => g_let ((z.2 + (1 : Int32))) (fun z4 : Int32 => True))))
set_option maxRecDepth 100000 in
set_option maxHeartbeats 4000000 in
theorem lp_l_seen_6 {p : Program} {l : Launch} {e : Env} {s : State} {m9 : MethodId} {args : Array Value} {below : List Frame} {meth : Method} {c : Code} {G : gG} {A : Nat → Prop} {Q : State → Prop} {q : Nat → Nat} (C : xC p s m9 args meth c G A 4 cL_seen RL wsL_seen) (hq : gD A q shH.length) (m : gM) (h : gN) : ∀ (n : Nat) (z : Int64 × Int32), rOk (L_l_seen_6 m) (K_l_seen_6 m) n z → (∀ z' : Int64 × Int32, run (L_l_seen_6 m) n z = z' → xJ p l e rm_l_seen s m9 args below meth c G A 4 Q 0 0 shH q m h [(0, .ref (q 0)), (1, .long z'.1), (3, .int z'.2)] [] 31) → xJ p l e rm_l_seen s m9 args below meth c G A 4 Q 0 0 shH q m h [(0, .ref (q 0)), (1, .long z.1), (3, .int z.2)] [] 6 := by
  intro n
  induction n with
  | zero =>
    intro z hok _
    exact rOk_0 hok
  | succ n ih =>
    intro z hok K0
    have hnx := rOk_2 hok
    have hok := rOk_1 hok
    have hf := L_l_seen_6.eq_1 m z
    have hok := Eq.mp (K_l_seen_6.eq_1 m z) hok
    refine x_iload_n C dL_seen_6 rfl 2 rfl ?_
    refine x_bipush (v := (11 : Int32)) C dL_seen_7 (by decide) ?_
    refine x_icmp_ge (tgt := 31) C dL_seen_9 (by decide) (fun c1 => ?_) (fun c1 => ?_)
    · have hf := hf.trans (if_pos c1)
      have hok := g_ip c1 hok
      exact K0 ((z.1, z.2)) (run_f hf)
    · have hf := hf.trans (if_neg c1)
      have hok := g_in c1 hok
      refine x_ldc2 (v := (31 : Int64)) C kc_L_seen_87 dL_seen_12 ?_
      refine x_lload_n C dL_seen_15 rfl 1 rfl ?_
      refine x_lmul C dL_seen_16 ?_
      refine x_aload_n C dL_seen_17 rfl 0 rfl ?_
      refine x_iload_n C dL_seen_18 rfl 2 rfl ?_
      have s2 := And.left hok
      have hok := And.right hok
      refine x_callVi (n := 1) C hq gFr_same (c_h_count l G q m h z.2 s2) (cwV 1 C.2.2.2.2.2.1 gL_seen_X2_count rfl rfl rfl (by decide +kernel) ⟨Nat.le_of_ble_eq_true rfl, Nat.le_of_ble_eq_true rfl⟩) rfl rfl rfl rfl (Nat.le_of_ble_eq_true rfl) dL_seen_19 (Nat.zero_le _) (Nat.zero_le _) ?_
      refine x_i2l C dL_seen_22 rfl ?_
      refine x_ladd C dL_seen_23 ?_
      obtain ⟨z3, hz3⟩ : ∃ y9 : Int64, y9 = (((31 : Int64) * z.1) + (f_h_count m z.2).toInt64) := ⟨_, rfl⟩
      have hf := hf.trans (g_let_eq hz3)
      have hok := g_let_p hz3 hok
      refine x_topl hz3 ?_
      refine x_lstore_n (lv' := [(0, .ref (q 0)), (1, .long z3), (3, .int z.2)]) C dL_seen_24 rfl (by decide) [1, 0, 2] rfl ?_
      obtain ⟨z4, hz4⟩ : ∃ y9 : Int32, y9 = (z.2 + (1 : Int32)) := ⟨_, rfl⟩
      have hf := hf.trans (g_let_eq hz4)
      have hok := g_let_p hz4 hok
      refine x_iinc (v := z4) (lv' := [(0, .ref (q 0)), (1, .long z3), (3, .int z4)]) C dL_seen_25 2 rfl hz4.symm (by decide) [1, 2, 0] rfl ?_
      refine x_goto (tgt := 6) C dL_seen_28 (by decide) ?_
      exact ih ((z3, z4)) (rOk_t hnx hf) (fun z' hz => K0 z' ((run_t hf).trans hz))
noncomputable def L_l_seen_33 (m : gM) (z : Int64 × Int32) : Bool × (Int64 × Int32) := (if (240 : Int32) ≤ z.2 then (false, (z.1, z.2)) else g_let ((((31 : Int64) * z.1) + (f_h_page m (z.2 / (6 : Int32)) (z.2 - z.2 / (6 : Int32) * (6 : Int32))).toInt64)) (fun z3 : Int64 => g_let ((z.2 + (1 : Int32))) (fun z4 : Int32 => (true, (z3, z4)))))
noncomputable def K_l_seen_33 (m : gM) (z : Int64 × Int32) : Prop := (if (240 : Int32) ≤ z.2 then True else (o_h_page m (z.2 / (6 : Int32)) (z.2 - z.2 / (6 : Int32) * (6 : Int32))) ∧ (g_let ((((31 : Int64) * z.1) + (f_h_page m (z.2 / (6 : Int32)) (z.2 - z.2 / (6 : Int32) * (6 : Int32))).toInt64)) (fun z3 : Int64 => g_let ((z.2 + (1 : Int32))) (fun z4 : Int32 => True))))
set_option maxRecDepth 100000 in
set_option maxHeartbeats 4000000 in
theorem lp_l_seen_33 {p : Program} {l : Launch} {e : Env} {s : State} {m9 : MethodId} {args : Array Value} {below : List Frame} {meth : Method} {c : Code} {G : gG} {A : Nat → Prop} {Q : State → Prop} {q : Nat → Nat} (C : xC p s m9 args meth c G A 4 cL_seen RL wsL_seen) (hq : gD A q shH.length) (m : gM) (h : gN) : ∀ (n : Nat) (z : Int64 × Int32), rOk (L_l_seen_33 m) (K_l_seen_33 m) n z → (∀ z' : Int64 × Int32, run (L_l_seen_33 m) n z = z' → xJ p l e rm_l_seen s m9 args below meth c G A 4 Q 0 0 shH q m h [(0, .ref (q 0)), (1, .long z'.1), (3, .int z'.2)] [] 66) → xJ p l e rm_l_seen s m9 args below meth c G A 4 Q 0 0 shH q m h [(0, .ref (q 0)), (1, .long z.1), (3, .int z.2)] [] 33 := by
  intro n
  induction n with
  | zero =>
    intro z hok _
    exact rOk_0 hok
  | succ n ih =>
    intro z hok K0
    have hnx := rOk_2 hok
    have hok := rOk_1 hok
    have hf := L_l_seen_33.eq_1 m z
    have hok := Eq.mp (K_l_seen_33.eq_1 m z) hok
    refine x_iload_n C dL_seen_33 rfl 2 rfl ?_
    refine x_sipush (v := (240 : Int32)) C dL_seen_34 (by decide) ?_
    refine x_icmp_ge (tgt := 66) C dL_seen_37 (by decide) (fun c1 => ?_) (fun c1 => ?_)
    · have hf := hf.trans (if_pos c1)
      have hok := g_ip c1 hok
      exact K0 ((z.1, z.2)) (run_f hf)
    · have hf := hf.trans (if_neg c1)
      have hok := g_in c1 hok
      refine x_ldc2 (v := (31 : Int64)) C kc_L_seen_87 dL_seen_40 ?_
      refine x_lload_n C dL_seen_43 rfl 1 rfl ?_
      refine x_lmul C dL_seen_44 ?_
      refine x_aload_n C dL_seen_45 rfl 0 rfl ?_
      refine x_iload_n C dL_seen_46 rfl 2 rfl ?_
      refine x_bipush (v := (6 : Int32)) C dL_seen_47 (by decide) ?_
      refine x_idiv C dL_seen_49 (by decide) ?_
      refine x_iload_n C dL_seen_50 rfl 2 rfl ?_
      refine x_bipush (v := (6 : Int32)) C dL_seen_51 (by decide) ?_
      refine x_irem C dL_seen_53 (by decide) ?_
      have s2 := And.left hok
      have hok := And.right hok
      refine x_callVi (n := 2) C hq gFr_same (c_h_page l G q m h (z.2 / (6 : Int32)) (z.2 - z.2 / (6 : Int32) * (6 : Int32)) s2) (cwV 2 C.2.2.2.2.2.1 gL_seen_X2_page rfl rfl rfl (by decide +kernel) ⟨Nat.le_of_ble_eq_true rfl, Nat.le_of_ble_eq_true rfl⟩) rfl rfl rfl rfl (Nat.le_of_ble_eq_true rfl) dL_seen_54 (Nat.zero_le _) (Nat.zero_le _) ?_
      refine x_i2l C dL_seen_57 rfl ?_
      refine x_ladd C dL_seen_58 ?_
      obtain ⟨z3, hz3⟩ : ∃ y9 : Int64, y9 = (((31 : Int64) * z.1) + (f_h_page m (z.2 / (6 : Int32)) (z.2 - z.2 / (6 : Int32) * (6 : Int32))).toInt64) := ⟨_, rfl⟩
      have hf := hf.trans (g_let_eq hz3)
      have hok := g_let_p hz3 hok
      refine x_topl hz3 ?_
      refine x_lstore_n (lv' := [(0, .ref (q 0)), (1, .long z3), (3, .int z.2)]) C dL_seen_59 rfl (by decide) [1, 0, 2] rfl ?_
      obtain ⟨z4, hz4⟩ : ∃ y9 : Int32, y9 = (z.2 + (1 : Int32)) := ⟨_, rfl⟩
      have hf := hf.trans (g_let_eq hz4)
      have hok := g_let_p hz4 hok
      refine x_iinc (v := z4) (lv' := [(0, .ref (q 0)), (1, .long z3), (3, .int z4)]) C dL_seen_60 2 rfl hz4.symm (by decide) [1, 2, 0] rfl ?_
      refine x_goto (tgt := 33) C dL_seen_63 (by decide) ?_
      exact ih ((z3, z4)) (rOk_t hnx hf) (fun z' hz => K0 z' ((run_t hf).trans hz))
noncomputable def L_l_seen_68 (m : gM) (z : Int64 × Int32) : Bool × (Int64 × Int32) := (if (96 : Int32) ≤ z.2 then (false, (z.1, z.2)) else g_let ((((31 : Int64) * (((31 : Int64) * z.1) + (f_h_block m (z.2 / (8 : Int32)) (z.2 - z.2 / (8 : Int32) * (8 : Int32))).toInt64)) + (f_h_slot m (z.2 / (8 : Int32)) (z.2 - z.2 / (8 : Int32) * (8 : Int32)) (0 : Int32)).toInt64)) (fun z4 : Int64 => g_let ((z.2 + (1 : Int32))) (fun z5 : Int32 => (true, (z4, z5)))))
noncomputable def K_l_seen_68 (m : gM) (z : Int64 × Int32) : Prop := (if (96 : Int32) ≤ z.2 then True else (o_h_block m (z.2 / (8 : Int32)) (z.2 - z.2 / (8 : Int32) * (8 : Int32))) ∧ ((o_h_slot m (z.2 / (8 : Int32)) (z.2 - z.2 / (8 : Int32) * (8 : Int32)) (0 : Int32)) ∧ (g_let ((((31 : Int64) * (((31 : Int64) * z.1) + (f_h_block m (z.2 / (8 : Int32)) (z.2 - z.2 / (8 : Int32) * (8 : Int32))).toInt64)) + (f_h_slot m (z.2 / (8 : Int32)) (z.2 - z.2 / (8 : Int32) * (8 : Int32)) (0 : Int32)).toInt64)) (fun z4 : Int64 => g_let ((z.2 + (1 : Int32))) (fun z5 : Int32 => True)))))
set_option maxRecDepth 100000 in
set_option maxHeartbeats 4000000 in
theorem lp_l_seen_68 {p : Program} {l : Launch} {e : Env} {s : State} {m9 : MethodId} {args : Array Value} {below : List Frame} {meth : Method} {c : Code} {G : gG} {A : Nat → Prop} {Q : State → Prop} {q : Nat → Nat} (C : xC p s m9 args meth c G A 4 cL_seen RL wsL_seen) (hq : gD A q shH.length) (m : gM) (h : gN) : ∀ (n : Nat) (z : Int64 × Int32), rOk (L_l_seen_68 m) (K_l_seen_68 m) n z → (∀ z' : Int64 × Int32, run (L_l_seen_68 m) n z = z' → xJ p l e rm_l_seen s m9 args below meth c G A 4 Q 0 0 shH q m h [(0, .ref (q 0)), (1, .long z'.1), (3, .int z'.2)] [] 119) → xJ p l e rm_l_seen s m9 args below meth c G A 4 Q 0 0 shH q m h [(0, .ref (q 0)), (1, .long z.1), (3, .int z.2)] [] 68 := by
  intro n
  induction n with
  | zero =>
    intro z hok _
    exact rOk_0 hok
  | succ n ih =>
    intro z hok K0
    have hnx := rOk_2 hok
    have hok := rOk_1 hok
    have hf := L_l_seen_68.eq_1 m z
    have hok := Eq.mp (K_l_seen_68.eq_1 m z) hok
    refine x_iload_n C dL_seen_68 rfl 2 rfl ?_
    refine x_bipush (v := (96 : Int32)) C dL_seen_69 (by decide) ?_
    refine x_icmp_ge (tgt := 119) C dL_seen_71 (by decide) (fun c1 => ?_) (fun c1 => ?_)
    · have hf := hf.trans (if_pos c1)
      have hok := g_ip c1 hok
      exact K0 ((z.1, z.2)) (run_f hf)
    · have hf := hf.trans (if_neg c1)
      have hok := g_in c1 hok
      refine x_ldc2 (v := (31 : Int64)) C kc_L_seen_87 dL_seen_74 ?_
      refine x_ldc2 (v := (31 : Int64)) C kc_L_seen_87 dL_seen_77 ?_
      refine x_lload_n C dL_seen_80 rfl 1 rfl ?_
      refine x_lmul C dL_seen_81 ?_
      refine x_aload_n C dL_seen_82 rfl 0 rfl ?_
      refine x_iload_n C dL_seen_83 rfl 2 rfl ?_
      refine x_bipush (v := (8 : Int32)) C dL_seen_84 (by decide) ?_
      refine x_idiv C dL_seen_86 (by decide) ?_
      refine x_iload_n C dL_seen_87 rfl 2 rfl ?_
      refine x_bipush (v := (8 : Int32)) C dL_seen_88 (by decide) ?_
      refine x_irem C dL_seen_90 (by decide) ?_
      have s2 := And.left hok
      have hok := And.right hok
      refine x_callVi (n := 2) C hq gFr_same (c_h_block l G q m h (z.2 / (8 : Int32)) (z.2 - z.2 / (8 : Int32) * (8 : Int32)) s2) (cwV 2 C.2.2.2.2.2.1 gL_seen_X2_block rfl rfl rfl (by decide +kernel) ⟨Nat.le_of_ble_eq_true rfl, Nat.le_of_ble_eq_true rfl⟩) rfl rfl rfl rfl (Nat.le_of_ble_eq_true rfl) dL_seen_91 (Nat.zero_le _) (Nat.zero_le _) ?_
      refine x_i2l C dL_seen_94 rfl ?_
      refine x_ladd C dL_seen_95 ?_
      refine x_lmul C dL_seen_96 ?_
      refine x_aload_n C dL_seen_97 rfl 0 rfl ?_
      refine x_iload_n C dL_seen_98 rfl 2 rfl ?_
      refine x_bipush (v := (8 : Int32)) C dL_seen_99 (by decide) ?_
      refine x_idiv C dL_seen_101 (by decide) ?_
      refine x_iload_n C dL_seen_102 rfl 2 rfl ?_
      refine x_bipush (v := (8 : Int32)) C dL_seen_103 (by decide) ?_
      refine x_irem C dL_seen_105 (by decide) ?_
      refine x_iconst (v := (0 : Int32)) C dL_seen_106 (by decide) ?_
      have s3 := And.left hok
      have hok := And.right hok
      refine x_callVi (n := 3) C hq gFr_same (c_h_slot l G q m h (z.2 / (8 : Int32)) (z.2 - z.2 / (8 : Int32) * (8 : Int32)) (0 : Int32) s3) (cwV 3 C.2.2.2.2.2.1 gL_seen_X2_slot rfl rfl rfl (by decide +kernel) ⟨Nat.le_of_ble_eq_true rfl, Nat.le_of_ble_eq_true rfl⟩) rfl rfl rfl rfl (Nat.le_of_ble_eq_true rfl) dL_seen_107 (Nat.zero_le _) (Nat.zero_le _) ?_
      refine x_i2l C dL_seen_110 rfl ?_
      refine x_ladd C dL_seen_111 ?_
      obtain ⟨z4, hz4⟩ : ∃ y9 : Int64, y9 = (((31 : Int64) * (((31 : Int64) * z.1) + (f_h_block m (z.2 / (8 : Int32)) (z.2 - z.2 / (8 : Int32) * (8 : Int32))).toInt64)) + (f_h_slot m (z.2 / (8 : Int32)) (z.2 - z.2 / (8 : Int32) * (8 : Int32)) (0 : Int32)).toInt64) := ⟨_, rfl⟩
      have hf := hf.trans (g_let_eq hz4)
      have hok := g_let_p hz4 hok
      refine x_topl hz4 ?_
      refine x_lstore_n (lv' := [(0, .ref (q 0)), (1, .long z4), (3, .int z.2)]) C dL_seen_112 rfl (by decide) [1, 0, 2] rfl ?_
      obtain ⟨z5, hz5⟩ : ∃ y9 : Int32, y9 = (z.2 + (1 : Int32)) := ⟨_, rfl⟩
      have hf := hf.trans (g_let_eq hz5)
      have hok := g_let_p hz5 hok
      refine x_iinc (v := z5) (lv' := [(0, .ref (q 0)), (1, .long z4), (3, .int z5)]) C dL_seen_113 2 rfl hz5.symm (by decide) [1, 2, 0] rfl ?_
      refine x_goto (tgt := 68) C dL_seen_116 (by decide) ?_
      exact ih ((z4, z5)) (rOk_t hnx hf) (fun z' hz => K0 z' ((run_t hf).trans hz))
noncomputable def L_l_seen_121 (m : gM) (z : Int64 × Int32) : Bool × (Int64 × Int32) := (if (25 : Int32) ≤ z.2 then (false, (z.1, z.2)) else g_let ((((31 : Int64) * z.1) + (f_h_stream m (z.2 / (5 : Int32)) (z.2 - z.2 / (5 : Int32) * (5 : Int32))).toInt64)) (fun z3 : Int64 => g_let ((z.2 + (1 : Int32))) (fun z4 : Int32 => (true, (z3, z4)))))
noncomputable def K_l_seen_121 (m : gM) (z : Int64 × Int32) : Prop := (if (25 : Int32) ≤ z.2 then True else (o_h_stream m (z.2 / (5 : Int32)) (z.2 - z.2 / (5 : Int32) * (5 : Int32))) ∧ (g_let ((((31 : Int64) * z.1) + (f_h_stream m (z.2 / (5 : Int32)) (z.2 - z.2 / (5 : Int32) * (5 : Int32))).toInt64)) (fun z3 : Int64 => g_let ((z.2 + (1 : Int32))) (fun z4 : Int32 => True))))
set_option maxRecDepth 100000 in
set_option maxHeartbeats 4000000 in
theorem lp_l_seen_121 {p : Program} {l : Launch} {e : Env} {s : State} {m9 : MethodId} {args : Array Value} {below : List Frame} {meth : Method} {c : Code} {G : gG} {A : Nat → Prop} {Q : State → Prop} {q : Nat → Nat} (C : xC p s m9 args meth c G A 4 cL_seen RL wsL_seen) (hq : gD A q shH.length) (m : gM) (h : gN) : ∀ (n : Nat) (z : Int64 × Int32), rOk (L_l_seen_121 m) (K_l_seen_121 m) n z → (∀ z' : Int64 × Int32, run (L_l_seen_121 m) n z = z' → xJ p l e rm_l_seen s m9 args below meth c G A 4 Q 0 0 shH q m h [(0, .ref (q 0)), (1, .long z'.1), (3, .int z'.2)] [] 151) → xJ p l e rm_l_seen s m9 args below meth c G A 4 Q 0 0 shH q m h [(0, .ref (q 0)), (1, .long z.1), (3, .int z.2)] [] 121 := by
  intro n
  induction n with
  | zero =>
    intro z hok _
    exact rOk_0 hok
  | succ n ih =>
    intro z hok K0
    have hnx := rOk_2 hok
    have hok := rOk_1 hok
    have hf := L_l_seen_121.eq_1 m z
    have hok := Eq.mp (K_l_seen_121.eq_1 m z) hok
    refine x_iload_n C dL_seen_121 rfl 2 rfl ?_
    refine x_bipush (v := (25 : Int32)) C dL_seen_122 (by decide) ?_
    refine x_icmp_ge (tgt := 151) C dL_seen_124 (by decide) (fun c1 => ?_) (fun c1 => ?_)
    · have hf := hf.trans (if_pos c1)
      have hok := g_ip c1 hok
      exact K0 ((z.1, z.2)) (run_f hf)
    · have hf := hf.trans (if_neg c1)
      have hok := g_in c1 hok
      refine x_ldc2 (v := (31 : Int64)) C kc_L_seen_87 dL_seen_127 ?_
      refine x_lload_n C dL_seen_130 rfl 1 rfl ?_
      refine x_lmul C dL_seen_131 ?_
      refine x_aload_n C dL_seen_132 rfl 0 rfl ?_
      refine x_iload_n C dL_seen_133 rfl 2 rfl ?_
      refine x_iconst (v := (5 : Int32)) C dL_seen_134 (by decide) ?_
      refine x_idiv C dL_seen_135 (by decide) ?_
      refine x_iload_n C dL_seen_136 rfl 2 rfl ?_
      refine x_iconst (v := (5 : Int32)) C dL_seen_137 (by decide) ?_
      refine x_irem C dL_seen_138 (by decide) ?_
      have s2 := And.left hok
      have hok := And.right hok
      refine x_callVi (n := 2) C hq gFr_same (c_h_stream l G q m h (z.2 / (5 : Int32)) (z.2 - z.2 / (5 : Int32) * (5 : Int32)) s2) (cwV 2 C.2.2.2.2.2.1 gL_seen_X2_stream rfl rfl rfl (by decide +kernel) ⟨Nat.le_of_ble_eq_true rfl, Nat.le_of_ble_eq_true rfl⟩) rfl rfl rfl rfl (Nat.le_of_ble_eq_true rfl) dL_seen_139 (Nat.zero_le _) (Nat.zero_le _) ?_
      refine x_i2l C dL_seen_142 rfl ?_
      refine x_ladd C dL_seen_143 ?_
      obtain ⟨z3, hz3⟩ : ∃ y9 : Int64, y9 = (((31 : Int64) * z.1) + (f_h_stream m (z.2 / (5 : Int32)) (z.2 - z.2 / (5 : Int32) * (5 : Int32))).toInt64) := ⟨_, rfl⟩
      have hf := hf.trans (g_let_eq hz3)
      have hok := g_let_p hz3 hok
      refine x_topl hz3 ?_
      refine x_lstore_n (lv' := [(0, .ref (q 0)), (1, .long z3), (3, .int z.2)]) C dL_seen_144 rfl (by decide) [1, 0, 2] rfl ?_
      obtain ⟨z4, hz4⟩ : ∃ y9 : Int32, y9 = (z.2 + (1 : Int32)) := ⟨_, rfl⟩
      have hf := hf.trans (g_let_eq hz4)
      have hok := g_let_p hz4 hok
      refine x_iinc (v := z4) (lv' := [(0, .ref (q 0)), (1, .long z3), (3, .int z4)]) C dL_seen_145 2 rfl hz4.symm (by decide) [1, 2, 0] rfl ?_
      refine x_goto (tgt := 121) C dL_seen_148 (by decide) ?_
      exact ih ((z3, z4)) (rOk_t hnx hf) (fun z' hz => K0 z' ((run_t hf).trans hz))
noncomputable def f_l_seen (m : gM) : Int64 := g_let (run (L_l_seen_6 m) 400 (((7 : Int64), (0 : Int32)))) (fun z2 : Int64 × Int32 => g_let (run (L_l_seen_33 m) 400 ((z2.1, (0 : Int32)))) (fun z4 : Int64 × Int32 => g_let (run (L_l_seen_68 m) 400 ((z4.1, (0 : Int32)))) (fun z6 : Int64 × Int32 => g_let (run (L_l_seen_121 m) 400 ((z6.1, (0 : Int32)))) (fun z8 : Int64 × Int32 => (((31 : Int64) * (((31 : Int64) * z8.1) + (f_h_setting m (0 : Int32)).toInt64)) + (f_h_setting m (1 : Int32)).toInt64)))))
noncomputable def o_l_seen (m : gM) : Prop := (rOk (L_l_seen_6 m) (K_l_seen_6 m) 400 (((7 : Int64), (0 : Int32)))) ∧ (g_let (run (L_l_seen_6 m) 400 (((7 : Int64), (0 : Int32)))) (fun z2 : Int64 × Int32 => (rOk (L_l_seen_33 m) (K_l_seen_33 m) 400 ((z2.1, (0 : Int32)))) ∧ (g_let (run (L_l_seen_33 m) 400 ((z2.1, (0 : Int32)))) (fun z4 : Int64 × Int32 => (rOk (L_l_seen_68 m) (K_l_seen_68 m) 400 ((z4.1, (0 : Int32)))) ∧ (g_let (run (L_l_seen_68 m) 400 ((z4.1, (0 : Int32)))) (fun z6 : Int64 × Int32 => (rOk (L_l_seen_121 m) (K_l_seen_121 m) 400 ((z6.1, (0 : Int32)))) ∧ (g_let (run (L_l_seen_121 m) 400 ((z6.1, (0 : Int32)))) (fun z8 : Int64 × Int32 => (o_h_setting m (0 : Int32)) ∧ ((o_h_setting m (1 : Int32)) ∧ (True))))))))))
set_option maxRecDepth 100000 in
set_option maxHeartbeats 4000000 in
theorem c_l_seen (l : Launch) (G : gG) (q : Nat → Nat) (m : gM) (h : gN) (hok : o_l_seen m) : gMl l yL_seen wsL_seen rm_l_seen G shH q m h [.ref (q 0)] m h (f_l_seen m) := by
  intro sz
  refine g_met (cc := cL_seen) (maxL := 4) (ret := (some .long)) (own := RL) (Qc := fun sz => gQl G shH q m h sz (f_l_seen m)) (by decide) rfl rfl (Nat.le_of_ble_eq_true rfl) (fun p e s m9 below meth c C hq hr => ?_)
  refine x_lv (lv' := [(0, .ref (q 0))]) [0] rfl ?_
  have hf := f_l_seen.eq_1 m
  have hok := Eq.mp (o_l_seen.eq_1 m) hok
  refine x_ldc2 (v := (7 : Int64)) C kc_L_seen_85 dL_seen_0 ?_
  refine x_lstore_n (lv' := [(0, .ref (q 0)), (1, .long (7 : Int64))]) C dL_seen_3 rfl (by decide) [1, 0] rfl ?_
  refine x_iconst (v := (0 : Int32)) C dL_seen_4 (by decide) ?_
  refine x_istore_n (lv' := [(0, .ref (q 0)), (1, .long (7 : Int64)), (3, .int (0 : Int32))]) C dL_seen_5 rfl (by decide) [1, 2, 0] rfl ?_
  have s1 := And.left hok
  have hok := And.right hok
  refine lp_l_seen_6 C hq m h 400 (((7 : Int64), (0 : Int32))) s1 (fun z2 hz2 => ?_)
  have hf := hf.trans (g_let_eq hz2.symm)
  have hok := g_let_p hz2.symm hok
  refine x_iconst (v := (0 : Int32)) C dL_seen_31 (by decide) ?_
  refine x_istore_n (lv' := [(0, .ref (q 0)), (1, .long z2.1), (3, .int (0 : Int32))]) C dL_seen_32 rfl (by decide) [1, 2, 0] rfl ?_
  have s3 := And.left hok
  have hok := And.right hok
  refine lp_l_seen_33 C hq m h 400 ((z2.1, (0 : Int32))) s3 (fun z4 hz4 => ?_)
  have hf := hf.trans (g_let_eq hz4.symm)
  have hok := g_let_p hz4.symm hok
  refine x_iconst (v := (0 : Int32)) C dL_seen_66 (by decide) ?_
  refine x_istore_n (lv' := [(0, .ref (q 0)), (1, .long z4.1), (3, .int (0 : Int32))]) C dL_seen_67 rfl (by decide) [1, 2, 0] rfl ?_
  have s5 := And.left hok
  have hok := And.right hok
  refine lp_l_seen_68 C hq m h 400 ((z4.1, (0 : Int32))) s5 (fun z6 hz6 => ?_)
  have hf := hf.trans (g_let_eq hz6.symm)
  have hok := g_let_p hz6.symm hok
  refine x_iconst (v := (0 : Int32)) C dL_seen_119 (by decide) ?_
  refine x_istore_n (lv' := [(0, .ref (q 0)), (1, .long z6.1), (3, .int (0 : Int32))]) C dL_seen_120 rfl (by decide) [1, 2, 0] rfl ?_
  have s7 := And.left hok
  have hok := And.right hok
  refine lp_l_seen_121 C hq m h 400 ((z6.1, (0 : Int32))) s7 (fun z8 hz8 => ?_)
  have hf := hf.trans (g_let_eq hz8.symm)
  have hok := g_let_p hz8.symm hok
  refine x_ldc2 (v := (31 : Int64)) C kc_L_seen_87 dL_seen_151 ?_
  refine x_ldc2 (v := (31 : Int64)) C kc_L_seen_87 dL_seen_154 ?_
  refine x_lload_n C dL_seen_157 rfl 1 rfl ?_
  refine x_lmul C dL_seen_158 ?_
  refine x_aload_n C dL_seen_159 rfl 0 rfl ?_
  refine x_iconst (v := (0 : Int32)) C dL_seen_160 (by decide) ?_
  have s9 := And.left hok
  have hok := And.right hok
  refine x_callVi (n := 1) C hq gFr_same (c_h_setting l G q m h (0 : Int32) s9) (cwV 1 C.2.2.2.2.2.1 gL_seen_X2_setting rfl rfl rfl (by decide +kernel) ⟨Nat.le_of_ble_eq_true rfl, Nat.le_of_ble_eq_true rfl⟩) rfl rfl rfl rfl (Nat.le_of_ble_eq_true rfl) dL_seen_161 (Nat.zero_le _) (Nat.zero_le _) ?_
  refine x_i2l C dL_seen_164 rfl ?_
  refine x_ladd C dL_seen_165 ?_
  refine x_lmul C dL_seen_166 ?_
  refine x_aload_n C dL_seen_167 rfl 0 rfl ?_
  refine x_iconst (v := (1 : Int32)) C dL_seen_168 (by decide) ?_
  have s10 := And.left hok
  have hok := And.right hok
  refine x_callVi (n := 1) C hq gFr_same (c_h_setting l G q m h (1 : Int32) s10) (cwV 1 C.2.2.2.2.2.1 gL_seen_X2_setting rfl rfl rfl (by decide +kernel) ⟨Nat.le_of_ble_eq_true rfl, Nat.le_of_ble_eq_true rfl⟩) rfl rfl rfl rfl (Nat.le_of_ble_eq_true rfl) dL_seen_169 (Nat.zero_le _) (Nat.zero_le _) ?_
  refine x_i2l C dL_seen_172 rfl ?_
  refine x_ladd C dL_seen_173 ?_
  exact g_lret C hr dL_seen_174 hf.symm rfl rfl
set_option maxRecDepth 20000 in
theorem kc_L_types_111 : Cond.constantLong RL 111 (255) ∈ wsL_types := by decide +kernel
abbrev rm_l_types : Room := { frames := 1, cells := 0, slots := 0, locals := 21 }
noncomputable def L_l_types_6 (x1 : Int64) (z : Int32 × Int32 × gM) : Bool × (Int32 × Int32 × gM) := (if z.2.1 < 0 then (false, (z.1, z.2.1, z.2.2)) else g_let ((Int64.toInt32 ((x1 >>> ((z.2.1).toInt64 &&& 63)) &&& (255 : Int64)))) (fun z2 : Int32 => (if z.1 = 0 then g_let ((z.2.1 + (-8 : Int32))) (fun z4 : Int32 => (true, ((0 : Int32), z4, z.2.2))) else (if z2 = 0 then g_let ((z.2.1 + (-8 : Int32))) (fun z6 : Int32 => (true, ((1 : Int32), z6, z.2.2))) else g_let (f_h_append z.2.2 z2) (fun z8 : Int32 × gM => (if z8.1 ≤ 0 then g_let ((z.2.1 + (-8 : Int32))) (fun z10 : Int32 => (true, ((0 : Int32), z10, z8.2))) else g_let ((z.2.1 + (-8 : Int32))) (fun z11 : Int32 => (true, ((1 : Int32), z11, z8.2)))))))))
noncomputable def K_l_types_6 (x1 : Int64) (z : Int32 × Int32 × gM) : Prop := (if z.2.1 < 0 then True else g_let ((Int64.toInt32 ((x1 >>> ((z.2.1).toInt64 &&& 63)) &&& (255 : Int64)))) (fun z2 : Int32 => (if z.1 = 0 then g_let ((z.2.1 + (-8 : Int32))) (fun z4 : Int32 => True) else (if z2 = 0 then g_let ((z.2.1 + (-8 : Int32))) (fun z6 : Int32 => True) else (o_h_append z.2.2 z2) ∧ (g_let (f_h_append z.2.2 z2) (fun z8 : Int32 × gM => (if z8.1 ≤ 0 then g_let ((z.2.1 + (-8 : Int32))) (fun z10 : Int32 => True) else g_let ((z.2.1 + (-8 : Int32))) (fun z11 : Int32 => True))))))))
set_option maxRecDepth 100000 in
set_option maxHeartbeats 4000000 in
theorem lp_l_types_6 {p : Program} {l : Launch} {e : Env} {s : State} {m9 : MethodId} {args : Array Value} {below : List Frame} {meth : Method} {c : Code} {G : gG} {A : Nat → Prop} {Q : State → Prop} {q : Nat → Nat} (C : xC p s m9 args meth c G A 6 cL_types RL wsL_types) (hq : gD A q shH.length) (h : gN) (x1 : Int64) : ∀ (n : Nat) (z : Int32 × Int32 × gM), rOk (L_l_types_6 x1) (K_l_types_6 x1) n z → (∀ z' : Int32 × Int32 × gM, run (L_l_types_6 x1) n z = z' → xJ p l e rm_l_types s m9 args below meth c G A 6 Q 0 0 shH q z'.2.2 h [(0, .ref (q 0)), (1, .long x1), (3, .int z'.1), (4, .int z'.2.1)] [] 52) → xJ p l e rm_l_types s m9 args below meth c G A 6 Q 0 0 shH q z.2.2 h [(0, .ref (q 0)), (1, .long x1), (3, .int z.1), (4, .int z.2.1)] [] 6 := by
  intro n
  induction n with
  | zero =>
    intro z hok _
    exact rOk_0 hok
  | succ n ih =>
    intro z hok K0
    have hnx := rOk_2 hok
    have hok := rOk_1 hok
    have hf := L_l_types_6.eq_1 x1 z
    have hok := Eq.mp (K_l_types_6.eq_1 x1 z) hok
    refine x_iload C dL_types_6 3 rfl ?_
    refine x_if_lt (tgt := 52) C dL_types_8 (by decide) (fun c1 => ?_) (fun c1 => ?_)
    · have hf := hf.trans (if_pos c1)
      have hok := g_ip c1 hok
      exact K0 ((z.1, z.2.1, z.2.2)) (run_f hf)
    · have hf := hf.trans (if_neg c1)
      have hok := g_in c1 hok
      refine x_lload_n C dL_types_11 rfl 1 rfl ?_
      refine x_iload C dL_types_12 3 rfl ?_
      refine x_lshr C dL_types_14 rfl ?_
      refine x_ldc2 (v := (255 : Int64)) C kc_L_types_111 dL_types_15 ?_
      refine x_land C dL_types_18 ?_
      refine x_l2i C dL_types_19 rfl ?_
      obtain ⟨z2, hz2⟩ : ∃ y9 : Int32, y9 = (Int64.toInt32 ((x1 >>> ((z.2.1).toInt64 &&& 63)) &&& (255 : Int64))) := ⟨_, rfl⟩
      have hf := hf.trans (g_let_eq hz2)
      have hok := g_let_p hz2 hok
      refine x_topi hz2 ?_
      refine x_istore (lv' := [(0, .ref (q 0)), (1, .long x1), (3, .int z.1), (4, .int z.2.1), (5, .int z2)]) C dL_types_20 (by decide) [1, 2, 3, 4, 0] rfl ?_
      refine x_iload_n C dL_types_22 rfl 2 rfl ?_
      refine x_if_eq (tgt := 44) C dL_types_23 (by decide) (fun c3 => ?_) (fun c3 => ?_)
      · have hf := hf.trans (if_pos c3)
        have hok := g_ip c3 hok
        refine x_iconst (v := (0 : Int32)) C dL_types_44 (by decide) ?_
        refine x_istore_n (lv' := [(0, .ref (q 0)), (1, .long x1), (3, .int (0 : Int32)), (4, .int z.2.1), (5, .int z2)]) C dL_types_45 rfl (by decide) [1, 2, 0, 3, 4] rfl ?_
        obtain ⟨z4, hz4⟩ : ∃ y9 : Int32, y9 = (z.2.1 + (-8 : Int32)) := ⟨_, rfl⟩
        have hf := hf.trans (g_let_eq hz4)
        have hok := g_let_p hz4 hok
        refine x_iinc (v := z4) (lv' := [(0, .ref (q 0)), (1, .long x1), (3, .int (0 : Int32)), (4, .int z4), (5, .int z2)]) C dL_types_46 3 rfl hz4.symm (by decide) [1, 2, 3, 0, 4] rfl ?_
        refine x_goto (tgt := 6) C dL_types_49 (by decide) ?_
        refine x_lv (lv' := [(0, .ref (q 0)), (1, .long x1), (3, .int (0 : Int32)), (4, .int z4)]) [0, 1, 2, 3] rfl ?_
        exact ih (((0 : Int32), z4, z.2.2)) (rOk_t hnx hf) (fun z' hz => K0 z' ((run_t hf).trans hz))
      · have hf := hf.trans (if_neg c3)
        have hok := g_in c3 hok
        refine x_iload C dL_types_26 4 rfl ?_
        refine x_if_eq (tgt := 40) C dL_types_28 (by decide) (fun c5 => ?_) (fun c5 => ?_)
        · have hf := hf.trans (if_pos c5)
          have hok := g_ip c5 hok
          refine x_iconst (v := (1 : Int32)) C dL_types_40 (by decide) ?_
          refine x_goto (tgt := 45) C dL_types_41 (by decide) ?_
          refine x_istore_n (lv' := [(0, .ref (q 0)), (1, .long x1), (3, .int (1 : Int32)), (4, .int z.2.1), (5, .int z2)]) C dL_types_45 rfl (by decide) [1, 2, 0, 3, 4] rfl ?_
          obtain ⟨z6, hz6⟩ : ∃ y9 : Int32, y9 = (z.2.1 + (-8 : Int32)) := ⟨_, rfl⟩
          have hf := hf.trans (g_let_eq hz6)
          have hok := g_let_p hz6 hok
          refine x_iinc (v := z6) (lv' := [(0, .ref (q 0)), (1, .long x1), (3, .int (1 : Int32)), (4, .int z6), (5, .int z2)]) C dL_types_46 3 rfl hz6.symm (by decide) [1, 2, 3, 0, 4] rfl ?_
          refine x_goto (tgt := 6) C dL_types_49 (by decide) ?_
          refine x_lv (lv' := [(0, .ref (q 0)), (1, .long x1), (3, .int (1 : Int32)), (4, .int z6)]) [0, 1, 2, 3] rfl ?_
          exact ih (((1 : Int32), z6, z.2.2)) (rOk_t hnx hf) (fun z' hz => K0 z' ((run_t hf).trans hz))
        · have hf := hf.trans (if_neg c5)
          have hok := g_in c5 hok
          refine x_aload_n C dL_types_31 rfl 0 rfl ?_
          refine x_iload C dL_types_32 4 rfl ?_
          have s7 := And.left hok
          have hok := And.right hok
          obtain ⟨z8, hz8⟩ : ∃ y9 : Int32 × gM, y9 = f_h_append z.2.2 z2 := ⟨_, rfl⟩
          have hf := hf.trans (g_let_eq hz8)
          have hok := g_let_p hz8 hok
          have hmz8 : gMi l yX2_append wsX2_append rm_h_append G shH q z.2.2 h [.ref (q 0), .int z2] z8.2 h z8.1 := by rw [hz8]; exact c_h_append l G q z.2.2 h z2 s7
          refine x_callVi (n := 1) C hq gFr_same (hmz8) (cwV 1 C.2.2.2.2.2.1 gL_types_X2_append rfl rfl rfl (by decide +kernel) ⟨Nat.le_of_ble_eq_true rfl, Nat.le_of_ble_eq_true rfl⟩) rfl rfl rfl rfl (Nat.le_of_ble_eq_true rfl) dL_types_34 (Nat.zero_le _) (Nat.zero_le _) ?_
          refine x_if_le (tgt := 44) C dL_types_37 (by decide) (fun c9 => ?_) (fun c9 => ?_)
          · have hf := hf.trans (if_pos c9)
            have hok := g_ip c9 hok
            refine x_iconst (v := (0 : Int32)) C dL_types_44 (by decide) ?_
            refine x_istore_n (lv' := [(0, .ref (q 0)), (1, .long x1), (3, .int (0 : Int32)), (4, .int z.2.1), (5, .int z2)]) C dL_types_45 rfl (by decide) [1, 2, 0, 3, 4] rfl ?_
            obtain ⟨z10, hz10⟩ : ∃ y9 : Int32, y9 = (z.2.1 + (-8 : Int32)) := ⟨_, rfl⟩
            have hf := hf.trans (g_let_eq hz10)
            have hok := g_let_p hz10 hok
            refine x_iinc (v := z10) (lv' := [(0, .ref (q 0)), (1, .long x1), (3, .int (0 : Int32)), (4, .int z10), (5, .int z2)]) C dL_types_46 3 rfl hz10.symm (by decide) [1, 2, 3, 0, 4] rfl ?_
            refine x_goto (tgt := 6) C dL_types_49 (by decide) ?_
            refine x_lv (lv' := [(0, .ref (q 0)), (1, .long x1), (3, .int (0 : Int32)), (4, .int z10)]) [0, 1, 2, 3] rfl ?_
            exact ih (((0 : Int32), z10, z8.2)) (rOk_t hnx hf) (fun z' hz => K0 z' ((run_t hf).trans hz))
          · have hf := hf.trans (if_neg c9)
            have hok := g_in c9 hok
            refine x_iconst (v := (1 : Int32)) C dL_types_40 (by decide) ?_
            refine x_goto (tgt := 45) C dL_types_41 (by decide) ?_
            refine x_istore_n (lv' := [(0, .ref (q 0)), (1, .long x1), (3, .int (1 : Int32)), (4, .int z.2.1), (5, .int z2)]) C dL_types_45 rfl (by decide) [1, 2, 0, 3, 4] rfl ?_
            obtain ⟨z11, hz11⟩ : ∃ y9 : Int32, y9 = (z.2.1 + (-8 : Int32)) := ⟨_, rfl⟩
            have hf := hf.trans (g_let_eq hz11)
            have hok := g_let_p hz11 hok
            refine x_iinc (v := z11) (lv' := [(0, .ref (q 0)), (1, .long x1), (3, .int (1 : Int32)), (4, .int z11), (5, .int z2)]) C dL_types_46 3 rfl hz11.symm (by decide) [1, 2, 3, 0, 4] rfl ?_
            refine x_goto (tgt := 6) C dL_types_49 (by decide) ?_
            refine x_lv (lv' := [(0, .ref (q 0)), (1, .long x1), (3, .int (1 : Int32)), (4, .int z11)]) [0, 1, 2, 3] rfl ?_
            exact ih (((1 : Int32), z11, z8.2)) (rOk_t hnx hf) (fun z' hz => K0 z' ((run_t hf).trans hz))
noncomputable def f_l_types (m : gM) (a1 : Int64) : Int32 × gM := g_let (run (L_l_types_6 a1) 400 (((1 : Int32), (56 : Int32), m))) (fun z2 : Int32 × Int32 × gM => (z2.1, z2.2.2))
noncomputable def o_l_types (m : gM) (a1 : Int64) : Prop := (rOk (L_l_types_6 a1) (K_l_types_6 a1) 400 (((1 : Int32), (56 : Int32), m))) ∧ (g_let (run (L_l_types_6 a1) 400 (((1 : Int32), (56 : Int32), m))) (fun z2 : Int32 × Int32 × gM => (z2.1 = 0 ∨ z2.1 = 1) ∧ True))
set_option maxRecDepth 100000 in
set_option maxHeartbeats 4000000 in
theorem c_l_types (l : Launch) (G : gG) (q : Nat → Nat) (m : gM) (h : gN) (a1 : Int64) (hok : o_l_types m a1) : gMi l yL_types wsL_types rm_l_types G shH q m h [.ref (q 0), .long a1] ((f_l_types m a1).2) h ((f_l_types m a1).1) := by
  intro sz
  refine g_met (cc := cL_types) (maxL := 6) (ret := (some .boolean)) (own := RL) (Qc := fun sz => gQi G shH q ((f_l_types m a1).2) h sz ((f_l_types m a1).1)) (by decide) rfl rfl (Nat.le_of_ble_eq_true rfl) (fun p e s m9 below meth c C hq hr => ?_)
  refine x_lv (lv' := [(0, .ref (q 0)), (1, .long a1)]) [0, 1] rfl ?_
  have hf := f_l_types.eq_1 m a1
  have hok := Eq.mp (o_l_types.eq_1 m a1) hok
  refine x_iconst (v := (1 : Int32)) C dL_types_0 (by decide) ?_
  refine x_istore_n (lv' := [(0, .ref (q 0)), (1, .long a1), (3, .int (1 : Int32))]) C dL_types_1 rfl (by decide) [1, 2, 0] rfl ?_
  refine x_bipush (v := (56 : Int32)) C dL_types_2 (by decide) ?_
  refine x_istore (lv' := [(0, .ref (q 0)), (1, .long a1), (3, .int (1 : Int32)), (4, .int (56 : Int32))]) C dL_types_4 (by decide) [1, 2, 3, 0] rfl ?_
  have s1 := And.left hok
  have hok := And.right hok
  refine lp_l_types_6 C hq h a1 400 (((1 : Int32), (56 : Int32), m)) s1 (fun z2 hz2 => ?_)
  have hf := hf.trans (g_let_eq hz2.symm)
  have hok := g_let_p hz2.symm hok
  refine x_iload_n C dL_types_52 rfl 2 rfl ?_
  have h01 := And.left hok
  exact g_iret C hr (g_nz h01) dL_types_53 (congrArg (fun z => z.1) hf).symm (congrArg (fun z => z.2) hf).symm rfl
