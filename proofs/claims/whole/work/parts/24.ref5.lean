set_option maxRecDepth 20000 in
theorem in_X3_rewritten_3 : ∀ w ∈ u_ws RX3 TX3 12, w ∈ wsX3_rewritten := by decide +kernel
set_option maxRecDepth 20000 in
theorem k_X3_rewritten_13 : Cond.fieldLink RX3 13 "HintedPagesModel" "trial" "[I" ∈ wsX3_rewritten := by decide +kernel
set_option maxRecDepth 20000 in
theorem k_X3_rewritten_7 : Cond.fieldLink RX3 7 "HintedPagesModel" "now" "[I" ∈ wsX3_rewritten := by decide +kernel
abbrev rm_r_rewritten : Room := { frames := 6, cells := 0, slots := 0, locals := 138 }
noncomputable def L_r_rewritten_27 (x1 : Int32) (x2 : Int32) (z : Int32 × Int32 × gM) : Bool × (Int32 × Int32 × gM) := (if ((40 : Int32) * x1) ≤ z.2.1 then (false, (z.1, z.2.1, z.2.2)) else g_let ((z.2.1 - z.2.1 / (40 : Int32) * (40 : Int32))) (fun z2 : Int32 => g_let ((f_r_of (g_sel [2] z.2.2) z2 (1 : Int32))) (fun z4 : Int32 => (if z4 = (-1 : Int32) then g_let (f_r_writes (g_sel [2] z.2.2) z2 (0 : Int32)) (fun z12 : Int32 × gM => g_let (g_mrg [2] z.2.2 z12.2) (fun z13 : gM => g_let ((z.1 + z12.1)) (fun z14 : Int32 => g_let ((z.2.1 + (1 : Int32))) (fun z15 : Int32 => (true, (z14, z15, z13)))))) else g_let (f_r_writes (g_sel [2] z.2.2) z2 z4) (fun z7 : Int32 × gM => g_let (g_mrg [2] z.2.2 z7.2) (fun z8 : gM => g_let ((z.1 + z7.1)) (fun z9 : Int32 => g_let ((z.2.1 + (1 : Int32))) (fun z10 : Int32 => (true, (z9, z10, z8))))))))))
noncomputable def K_r_rewritten_27 (x1 : Int32) (x2 : Int32) (z : Int32 × Int32 × gM) : Prop := (if ((40 : Int32) * x1) ≤ z.2.1 then True else g_let ((z.2.1 - z.2.1 / (40 : Int32) * (40 : Int32))) (fun z2 : Int32 => (o_r_of (g_sel [2] z.2.2) z2 (1 : Int32)) ∧ (g_let ((f_r_of (g_sel [2] z.2.2) z2 (1 : Int32))) (fun z4 : Int32 => (if z4 = (-1 : Int32) then (o_r_writes (g_sel [2] z.2.2) z2 (0 : Int32)) ∧ (g_let (f_r_writes (g_sel [2] z.2.2) z2 (0 : Int32)) (fun z12 : Int32 × gM => g_let (g_mrg [2] z.2.2 z12.2) (fun z13 : gM => g_let ((z.1 + z12.1)) (fun z14 : Int32 => g_let ((z.2.1 + (1 : Int32))) (fun z15 : Int32 => True))))) else (o_r_writes (g_sel [2] z.2.2) z2 z4) ∧ (g_let (f_r_writes (g_sel [2] z.2.2) z2 z4) (fun z7 : Int32 × gM => g_let (g_mrg [2] z.2.2 z7.2) (fun z8 : gM => g_let ((z.1 + z7.1)) (fun z9 : Int32 => g_let ((z.2.1 + (1 : Int32))) (fun z10 : Int32 => True))))))))))
set_option maxRecDepth 100000 in
set_option maxHeartbeats 4000000 in
theorem lp_r_rewritten_27 {p : Program} {l : Launch} {e : Env} {s : State} {m9 : MethodId} {args : Array Value} {below : List Frame} {meth : Method} {c : Code} {G : gG} {A : Nat → Prop} {Q : State → Prop} {q : Nat → Nat} (C : xC p s m9 args meth c G A 7 cX3_rewritten RX3 wsX3_rewritten) (hq : gD A q shM.length) (h : gN) (x1 : Int32) (x2 : Int32) : ∀ (n : Nat) (z : Int32 × Int32 × gM), rOk (L_r_rewritten_27 x1 x2) (K_r_rewritten_27 x1 x2) n z → (∀ z' : Int32 × Int32 × gM, run (L_r_rewritten_27 x1 x2) n z = z' → xJ p l e rm_r_rewritten s m9 args below meth c G A 7 Q 0 0 shM q z'.2.2 h [(0, .ref (q 0)), (1, .int x1), (2, .int x2), (3, .int z'.1), (4, .int z'.2.1)] [] 85) → xJ p l e rm_r_rewritten s m9 args below meth c G A 7 Q 0 0 shM q z.2.2 h [(0, .ref (q 0)), (1, .int x1), (2, .int x2), (3, .int z.1), (4, .int z.2.1)] [] 27 := by
  intro n
  induction n with
  | zero =>
    intro z hok _
    exact rOk_0 hok
  | succ n ih =>
    intro z hok K0
    have hnx := rOk_2 hok
    have hok := rOk_1 hok
    have hf := L_r_rewritten_27.eq_1 x1 x2 z
    have hok := Eq.mp (K_r_rewritten_27.eq_1 x1 x2 z) hok
    refine x_iload C dX3_rewritten_27 4 rfl ?_
    refine x_bipush (v := (40 : Int32)) C dX3_rewritten_29 (by decide) ?_
    refine x_iload_n C dX3_rewritten_31 rfl 1 rfl ?_
    refine x_imul C dX3_rewritten_32 ?_
    refine x_icmp_ge (tgt := 85) C dX3_rewritten_33 (by decide) (fun c1 => ?_) (fun c1 => ?_)
    · have hf := hf.trans (if_pos c1)
      have hok := g_ip c1 hok
      exact K0 ((z.1, z.2.1, z.2.2)) (run_f hf)
    · have hf := hf.trans (if_neg c1)
      have hok := g_in c1 hok
      refine x_iload C dX3_rewritten_36 4 rfl ?_
      refine x_bipush (v := (40 : Int32)) C dX3_rewritten_38 (by decide) ?_
      refine x_irem C dX3_rewritten_40 (by decide) ?_
      obtain ⟨z2, hz2⟩ : ∃ y9 : Int32, y9 = (z.2.1 - z.2.1 / (40 : Int32) * (40 : Int32)) := ⟨_, rfl⟩
      have hf := hf.trans (g_let_eq hz2)
      have hok := g_let_p hz2 hok
      refine x_topi hz2 ?_
      refine x_istore (lv' := [(0, .ref (q 0)), (1, .int x1), (2, .int x2), (3, .int z.1), (4, .int z.2.1), (5, .int z2)]) C dX3_rewritten_41 (by decide) [1, 2, 3, 4, 5, 0] rfl ?_
      refine x_aload_n C dX3_rewritten_43 rfl 0 rfl ?_
      refine x_get (v := .ref (q 2)) C in_X3_rewritten_3 0 rfl rfl 1 (by decide) k_X3_rewritten_13 rfl rfl dX3_rewritten_44 ?_
      refine x_iload C dX3_rewritten_47 5 rfl ?_
      refine x_iconst (v := (1 : Int32)) C dX3_rewritten_49 (by decide) ?_
      have s3 := And.left hok
      have hok := And.right hok
      refine x_callSi (n := 3) C hq (gFr_pure gs_M_r_2) (c_r_of l G (g_sel [2] q) (g_sel [2] z.2.2) (g_sel [2] h) z2 (1 : Int32) s3) (va_cwS 3 C.2.2.2.2.2.1 gX3_rewritten_X3_of rfl rfl rfl (by decide +kernel) ⟨Nat.le_of_ble_eq_true rfl, Nat.le_of_ble_eq_true rfl⟩) rfl rfl (Nat.le_of_ble_eq_true rfl) dX3_rewritten_50 (Nat.zero_le _) (Nat.zero_le _) ?_
      obtain ⟨z4, hz4⟩ : ∃ y9 : Int32, y9 = (f_r_of (g_sel [2] z.2.2) z2 (1 : Int32)) := ⟨_, rfl⟩
      have hf := hf.trans (g_let_eq hz4)
      have hok := g_let_p hz4 hok
      refine x_topi hz4 ?_
      refine x_istore (lv' := [(0, .ref (q 0)), (1, .int x1), (2, .int x2), (3, .int z.1), (4, .int z.2.1), (5, .int z2), (6, .int z4)]) C dX3_rewritten_53 (by decide) [1, 2, 3, 4, 5, 6, 0] rfl ?_
      refine x_iload_n C dX3_rewritten_55 rfl 3 rfl ?_
      refine x_aload_n C dX3_rewritten_56 rfl 0 rfl ?_
      refine x_get (v := .ref (q 2)) C in_X3_rewritten_3 0 rfl rfl 1 (by decide) k_X3_rewritten_13 rfl rfl dX3_rewritten_57 ?_
      refine x_iload C dX3_rewritten_60 5 rfl ?_
      refine x_iload C dX3_rewritten_62 6 rfl ?_
      refine x_iconst (v := (-1 : Int32)) C dX3_rewritten_64 (by decide) ?_
      refine x_icmp_ne (tgt := 72) C dX3_rewritten_65 (by decide) (fun c5 => ?_) (fun c5 => ?_)
      · have hf := hf.trans (if_neg c5)
        have hok := g_in c5 hok
        refine x_iload C dX3_rewritten_72 6 rfl ?_
        have s6 := And.left hok
        have hok := And.right hok
        obtain ⟨z7, hz7⟩ : ∃ y9 : Int32 × gM, y9 = f_r_writes (g_sel [2] z.2.2) z2 z4 := ⟨_, rfl⟩
        have hf := hf.trans (g_let_eq hz7)
        have hok := g_let_p hz7 hok
        have hmz7 : gMi l yX3_writes wsX3_writes rm_r_writes G shr (g_sel [2] q) (g_sel [2] z.2.2) (g_sel [2] h) [.ref ((g_sel [2] q) 0), .int z2, .int z4] z7.2 (g_sel [2] h) z7.1 := by rw [hz7]; exact c_r_writes l G (g_sel [2] q) (g_sel [2] z.2.2) (g_sel [2] h) z2 z4 s6
        refine x_callSi (n := 3) C hq (gFr_sub gs_M_r_2) (hmz7) (va_cwS 3 C.2.2.2.2.2.1 gX3_rewritten_X3_writes rfl rfl rfl (by decide +kernel) ⟨Nat.le_of_ble_eq_true rfl, Nat.le_of_ble_eq_true rfl⟩) rfl rfl (Nat.le_of_ble_eq_true rfl) dX3_rewritten_74 (Nat.zero_le _) (Nat.zero_le _) ?_
        obtain ⟨z8, hz8⟩ : ∃ y9 : gM, y9 = g_mrg [2] z.2.2 z7.2 := ⟨_, rfl⟩
        have hf := hf.trans (g_let_eq hz8)
        have hok := g_let_p hz8 hok
        refine x_mu hz8 (g_mrg_id gs_M_r_2.1) ?_
        refine x_iadd C dX3_rewritten_77 ?_
        obtain ⟨z9, hz9⟩ : ∃ y9 : Int32, y9 = (z.1 + z7.1) := ⟨_, rfl⟩
        have hf := hf.trans (g_let_eq hz9)
        have hok := g_let_p hz9 hok
        refine x_topi hz9 ?_
        refine x_istore_n (lv' := [(0, .ref (q 0)), (1, .int x1), (2, .int x2), (3, .int z9), (4, .int z.2.1), (5, .int z2), (6, .int z4)]) C dX3_rewritten_78 rfl (by decide) [1, 2, 3, 0, 4, 5, 6] rfl ?_
        obtain ⟨z10, hz10⟩ : ∃ y9 : Int32, y9 = (z.2.1 + (1 : Int32)) := ⟨_, rfl⟩
        have hf := hf.trans (g_let_eq hz10)
        have hok := g_let_p hz10 hok
        refine x_iinc (v := z10) (lv' := [(0, .ref (q 0)), (1, .int x1), (2, .int x2), (3, .int z9), (4, .int z10), (5, .int z2), (6, .int z4)]) C dX3_rewritten_79 4 rfl hz10.symm (by decide) [1, 2, 3, 4, 0, 5, 6] rfl ?_
        refine x_goto (tgt := 27) C dX3_rewritten_82 (by decide) ?_
        refine x_lv (lv' := [(0, .ref (q 0)), (1, .int x1), (2, .int x2), (3, .int z9), (4, .int z10)]) [0, 1, 2, 3, 4] rfl ?_
        exact ih ((z9, z10, z8)) (rOk_t hnx hf) (fun z' hz => K0 z' ((run_t hf).trans hz))
      · have hf := hf.trans (if_pos c5)
        have hok := g_ip c5 hok
        refine x_iconst (v := (0 : Int32)) C dX3_rewritten_68 (by decide) ?_
        refine x_goto (tgt := 74) C dX3_rewritten_69 (by decide) ?_
        have s11 := And.left hok
        have hok := And.right hok
        obtain ⟨z12, hz12⟩ : ∃ y9 : Int32 × gM, y9 = f_r_writes (g_sel [2] z.2.2) z2 (0 : Int32) := ⟨_, rfl⟩
        have hf := hf.trans (g_let_eq hz12)
        have hok := g_let_p hz12 hok
        have hmz12 : gMi l yX3_writes wsX3_writes rm_r_writes G shr (g_sel [2] q) (g_sel [2] z.2.2) (g_sel [2] h) [.ref ((g_sel [2] q) 0), .int z2, .int (0 : Int32)] z12.2 (g_sel [2] h) z12.1 := by rw [hz12]; exact c_r_writes l G (g_sel [2] q) (g_sel [2] z.2.2) (g_sel [2] h) z2 (0 : Int32) s11
        refine x_callSi (n := 3) C hq (gFr_sub gs_M_r_2) (hmz12) (va_cwS 3 C.2.2.2.2.2.1 gX3_rewritten_X3_writes rfl rfl rfl (by decide +kernel) ⟨Nat.le_of_ble_eq_true rfl, Nat.le_of_ble_eq_true rfl⟩) rfl rfl (Nat.le_of_ble_eq_true rfl) dX3_rewritten_74 (Nat.zero_le _) (Nat.zero_le _) ?_
        obtain ⟨z13, hz13⟩ : ∃ y9 : gM, y9 = g_mrg [2] z.2.2 z12.2 := ⟨_, rfl⟩
        have hf := hf.trans (g_let_eq hz13)
        have hok := g_let_p hz13 hok
        refine x_mu hz13 (g_mrg_id gs_M_r_2.1) ?_
        refine x_iadd C dX3_rewritten_77 ?_
        obtain ⟨z14, hz14⟩ : ∃ y9 : Int32, y9 = (z.1 + z12.1) := ⟨_, rfl⟩
        have hf := hf.trans (g_let_eq hz14)
        have hok := g_let_p hz14 hok
        refine x_topi hz14 ?_
        refine x_istore_n (lv' := [(0, .ref (q 0)), (1, .int x1), (2, .int x2), (3, .int z14), (4, .int z.2.1), (5, .int z2), (6, .int z4)]) C dX3_rewritten_78 rfl (by decide) [1, 2, 3, 0, 4, 5, 6] rfl ?_
        obtain ⟨z15, hz15⟩ : ∃ y9 : Int32, y9 = (z.2.1 + (1 : Int32)) := ⟨_, rfl⟩
        have hf := hf.trans (g_let_eq hz15)
        have hok := g_let_p hz15 hok
        refine x_iinc (v := z15) (lv' := [(0, .ref (q 0)), (1, .int x1), (2, .int x2), (3, .int z14), (4, .int z15), (5, .int z2), (6, .int z4)]) C dX3_rewritten_79 4 rfl hz15.symm (by decide) [1, 2, 3, 4, 0, 5, 6] rfl ?_
        refine x_goto (tgt := 27) C dX3_rewritten_82 (by decide) ?_
        refine x_lv (lv' := [(0, .ref (q 0)), (1, .int x1), (2, .int x2), (3, .int z14), (4, .int z15)]) [0, 1, 2, 3, 4] rfl ?_
        exact ih ((z14, z15, z13)) (rOk_t hnx hf) (fun z' hz => K0 z' ((run_t hf).trans hz))
noncomputable def f_r_rewritten (m : gM) (a1 : Int32) (a2 : Int32) : Int32 × gM := g_let (f_r_lays3 (g_sel [1, 2] m) (0 : Int32) (0 : Int32)) (fun z2 : gM => g_let (g_mrg [1, 2] m z2) (fun z3 : gM => g_let (g_set z3 2 (upd (z3 2) (358 : Int32).toNatClampNeg a2)) (fun z4 : gM => g_let (run (L_r_rewritten_27 a1 a2) 400 (((0 : Int32), (0 : Int32), z4))) (fun z6 : Int32 × Int32 × gM => (z6.1, z6.2.2)))))
noncomputable def o_r_rewritten (m : gM) (a1 : Int32) (a2 : Int32) : Prop := (o_r_lays3 (g_sel [1, 2] m) (0 : Int32) (0 : Int32)) ∧ (g_let (f_r_lays3 (g_sel [1, 2] m) (0 : Int32) (0 : Int32)) (fun z2 : gM => g_let (g_mrg [1, 2] m z2) (fun z3 : gM => g_let (g_set z3 2 (upd (z3 2) (358 : Int32).toNatClampNeg a2)) (fun z4 : gM => (rOk (L_r_rewritten_27 a1 a2) (K_r_rewritten_27 a1 a2) 400 (((0 : Int32), (0 : Int32), z4))) ∧ (g_let (run (L_r_rewritten_27 a1 a2) 400 (((0 : Int32), (0 : Int32), z4))) (fun z6 : Int32 × Int32 × gM => True))))))
set_option maxRecDepth 100000 in
set_option maxHeartbeats 4000000 in
theorem c_r_rewritten (l : Launch) (G : gG) (q : Nat → Nat) (m : gM) (h : gN) (a1 : Int32) (a2 : Int32) (hok : o_r_rewritten m a1 a2) : gMi l yX3_rewritten wsX3_rewritten rm_r_rewritten G shM q m h [.ref (q 0), .int a1, .int a2] ((f_r_rewritten m a1 a2).2) h ((f_r_rewritten m a1 a2).1) := by
  intro sz
  refine g_met (cc := cX3_rewritten) (maxL := 7) (ret := (some .int)) (own := RX3) (Qc := fun sz => gQi G shM q ((f_r_rewritten m a1 a2).2) h sz ((f_r_rewritten m a1 a2).1)) (by decide) rfl rfl (Nat.le_of_ble_eq_true rfl) (fun p e s m9 below meth c C hq hr => ?_)
  refine x_lv (lv' := [(0, .ref (q 0)), (1, .int a1), (2, .int a2)]) [0, 1, 2] rfl ?_
  have hf := f_r_rewritten.eq_1 m a1 a2
  have hok := Eq.mp (o_r_rewritten.eq_1 m a1 a2) hok
  refine x_aload_n C dX3_rewritten_0 rfl 0 rfl ?_
  refine x_get (v := .ref (q 1)) C in_X3_rewritten_3 0 rfl rfl 0 (by decide) k_X3_rewritten_7 rfl rfl dX3_rewritten_1 ?_
  refine x_iconst (v := (0 : Int32)) C dX3_rewritten_4 (by decide) ?_
  refine x_aload_n C dX3_rewritten_5 rfl 0 rfl ?_
  refine x_get (v := .ref (q 2)) C in_X3_rewritten_3 0 rfl rfl 1 (by decide) k_X3_rewritten_13 rfl rfl dX3_rewritten_6 ?_
  refine x_iconst (v := (0 : Int32)) C dX3_rewritten_9 (by decide) ?_
  have s1 := And.left hok
  have hok := And.right hok
  obtain ⟨z2, hz2⟩ : ∃ y9 : gM, y9 = f_r_lays3 (g_sel [1, 2] m) (0 : Int32) (0 : Int32) := ⟨_, rfl⟩
  have hf := hf.trans (g_let_eq hz2)
  have hok := g_let_p hz2 hok
  have hmz2 : gMv l yX3_lays wsX3_lays rm_r_lays3 G shl3 (g_sel [1, 2] q) (g_sel [1, 2] m) (g_sel [1, 2] h) [.ref ((g_sel [1, 2] q) 0), .int (0 : Int32), .ref ((g_sel [1, 2] q) 1), .int (0 : Int32)] z2 (g_sel [1, 2] h) := by rw [hz2]; exact c_r_lays3 l G (g_sel [1, 2] q) (g_sel [1, 2] m) (g_sel [1, 2] h) (0 : Int32) (0 : Int32) s1
  refine x_callSv (n := 4) C hq (gFr_sub gs_M_l3_1_2) (hmz2) (va_cwS 4 C.2.2.2.2.2.1 gX3_rewritten_X3_lays rfl rfl rfl (by decide +kernel) ⟨Nat.le_of_ble_eq_true rfl, Nat.le_of_ble_eq_true rfl⟩) rfl rfl (Nat.le_of_ble_eq_true rfl) dX3_rewritten_10 (Nat.zero_le _) (Nat.zero_le _) ?_
  obtain ⟨z3, hz3⟩ : ∃ y9 : gM, y9 = g_mrg [1, 2] m z2 := ⟨_, rfl⟩
  have hf := hf.trans (g_let_eq hz3)
  have hok := g_let_p hz3 hok
  refine x_mu hz3 (g_mrg_id gs_M_l3_1_2.1) ?_
  refine x_aload_n C dX3_rewritten_13 rfl 0 rfl ?_
  refine x_get (v := .ref (q 2)) C in_X3_rewritten_3 0 rfl rfl 1 (by decide) k_X3_rewritten_13 rfl rfl dX3_rewritten_14 ?_
  refine x_sipush (v := (358 : Int32)) C dX3_rewritten_17 (by decide) ?_
  refine x_iload_n C dX3_rewritten_20 rfl 2 rfl ?_
  obtain ⟨z4, hz4⟩ : ∃ y9 : gM, y9 = g_set z3 2 (upd (z3 2) (358 : Int32).toNatClampNeg a2) := ⟨_, rfl⟩
  have hf := hf.trans (g_let_eq hz4)
  have hok := g_let_p hz4 hok
  refine x_iast (μ' := z4) (n := 364) C hq 2 rfl (by unfold vp_in; decide) hz4 dX3_rewritten_21 ?_
  refine x_iconst (v := (0 : Int32)) C dX3_rewritten_22 (by decide) ?_
  refine x_istore_n (lv' := [(0, .ref (q 0)), (1, .int a1), (2, .int a2), (3, .int (0 : Int32))]) C dX3_rewritten_23 rfl (by decide) [1, 2, 3, 0] rfl ?_
  refine x_iconst (v := (0 : Int32)) C dX3_rewritten_24 (by decide) ?_
  refine x_istore (lv' := [(0, .ref (q 0)), (1, .int a1), (2, .int a2), (3, .int (0 : Int32)), (4, .int (0 : Int32))]) C dX3_rewritten_25 (by decide) [1, 2, 3, 4, 0] rfl ?_
  have s5 := And.left hok
  have hok := And.right hok
  refine lp_r_rewritten_27 C hq h a1 a2 400 (((0 : Int32), (0 : Int32), z4)) s5 (fun z6 hz6 => ?_)
  have hf := hf.trans (g_let_eq hz6.symm)
  have hok := g_let_p hz6.symm hok
  refine x_iload_n C dX3_rewritten_85 rfl 3 rfl ?_
  exact g_iret C hr rfl dX3_rewritten_86 (congrArg (fun z => z.1) hf).symm (congrArg (fun z => z.2) hf).symm rfl
set_option maxRecDepth 20000 in
theorem in_X3_ifRewritten_3 : ∀ w ∈ u_ws RX3 TX3 12, w ∈ wsX3_ifRewritten := by decide +kernel
set_option maxRecDepth 20000 in
theorem k_X3_ifRewritten_25 : Cond.fieldLink RX3 25 "HintedPagesModel" "thrown" "I" ∈ wsX3_ifRewritten := by decide +kernel
set_option maxRecDepth 20000 in
theorem k_X3_ifRewritten_7 : Cond.fieldLink RX3 7 "HintedPagesModel" "now" "[I" ∈ wsX3_ifRewritten := by decide +kernel
abbrev rm_r_ifRewritten : Room := { frames := 7, cells := 0, slots := 0, locals := 164 }
noncomputable def f_r_ifRewritten (m : gM) (a1 : Int32) : Int32 × gM := g_let (g_set m 0 (upd (m 0) 6 (0 : Int32))) (fun z1 : gM => (if (f_r_in a1 (1 : Int32) (9 : Int32)) = 0 then g_let (f_r_fails z1 (1 : Int32)) (fun z5 : Int32 × gM => (z5.1, z5.2)) else g_let (f_r_rewritten z1 a1 (z1 1 (358 : Int32).toNatClampNeg)) (fun z7 : Int32 × gM => (z7.1, z7.2))))
noncomputable def o_r_ifRewritten (m : gM) (a1 : Int32) : Prop := g_let (g_set m 0 (upd (m 0) 6 (0 : Int32))) (fun z1 : gM => (o_r_in a1 (1 : Int32) (9 : Int32)) ∧ ((if (f_r_in a1 (1 : Int32) (9 : Int32)) = 0 then (o_r_fails z1 (1 : Int32)) ∧ (g_let (f_r_fails z1 (1 : Int32)) (fun z5 : Int32 × gM => True)) else (o_r_rewritten z1 a1 (z1 1 (358 : Int32).toNatClampNeg)) ∧ (g_let (f_r_rewritten z1 a1 (z1 1 (358 : Int32).toNatClampNeg)) (fun z7 : Int32 × gM => True)))))
set_option maxRecDepth 100000 in
set_option maxHeartbeats 4000000 in
theorem c_r_ifRewritten (l : Launch) (G : gG) (q : Nat → Nat) (m : gM) (h : gN) (a1 : Int32) (hok : o_r_ifRewritten m a1) : gMi l yX3_ifRewritten wsX3_ifRewritten rm_r_ifRewritten G shM q m h [.ref (q 0), .int a1] ((f_r_ifRewritten m a1).2) h ((f_r_ifRewritten m a1).1) := by
  intro sz
  refine g_met (cc := cX3_ifRewritten) (maxL := 2) (ret := (some .int)) (own := RX3) (Qc := fun sz => gQi G shM q ((f_r_ifRewritten m a1).2) h sz ((f_r_ifRewritten m a1).1)) (by decide) rfl rfl (Nat.le_of_ble_eq_true rfl) (fun p e s m9 below meth c C hq hr => ?_)
  refine x_lv (lv' := [(0, .ref (q 0)), (1, .int a1)]) [0, 1] rfl ?_
  have hf := f_r_ifRewritten.eq_1 m a1
  have hok := Eq.mp (o_r_ifRewritten.eq_1 m a1) hok
  refine x_aload_n C dX3_ifRewritten_0 rfl 0 rfl ?_
  refine x_iconst (v := (0 : Int32)) C dX3_ifRewritten_1 (by decide) ?_
  obtain ⟨z1, hz1⟩ : ∃ y9 : gM, y9 = g_set m 0 (upd (m 0) 6 (0 : Int32)) := ⟨_, rfl⟩
  have hf := hf.trans (g_let_eq hz1)
  have hok := g_let_p hz1 hok
  refine x_puti (μ' := z1) (ty := .int) C hq tyX3 tyX3_ok nmX3 in_X3_ifRewritten_3 0 rfl rfl 6 (by decide) k_X3_ifRewritten_25 rfl (tyX3_ok 6 (by decide)) rfl rfl rfl hz1 dX3_ifRewritten_2 ?_
  refine x_iload_n C dX3_ifRewritten_5 rfl 1 rfl ?_
  refine x_iconst (v := (1 : Int32)) C dX3_ifRewritten_6 (by decide) ?_
  refine x_bipush (v := (9 : Int32)) C dX3_ifRewritten_7 (by decide) ?_
  have s2 := And.left hok
  have hok := And.right hok
  refine x_callSi (n := 3) C hq (gFr_pure gs_M_0_) (c_r_in l G (g_sel [] q) (g_sel [] z1) (g_sel [] h) a1 (1 : Int32) (9 : Int32) s2) (va_cwS 3 C.2.2.2.2.2.1 gX3_ifRewritten_X3_in rfl rfl rfl (by decide +kernel) ⟨Nat.le_of_ble_eq_true rfl, Nat.le_of_ble_eq_true rfl⟩) rfl rfl (Nat.le_of_ble_eq_true rfl) dX3_ifRewritten_9 (Nat.zero_le _) (Nat.zero_le _) ?_
  refine x_if_eq (tgt := 31) C dX3_ifRewritten_12 (by decide) (fun c3 => ?_) (fun c3 => ?_)
  · have hf := hf.trans (if_pos c3)
    have hok := g_ip c3 hok
    refine x_aload_n C dX3_ifRewritten_31 rfl 0 rfl ?_
    refine x_iconst (v := (1 : Int32)) C dX3_ifRewritten_32 (by decide) ?_
    have s4 := And.left hok
    have hok := And.right hok
    obtain ⟨z5, hz5⟩ : ∃ y9 : Int32 × gM, y9 = f_r_fails z1 (1 : Int32) := ⟨_, rfl⟩
    have hf := hf.trans (g_let_eq hz5)
    have hok := g_let_p hz5 hok
    have hmz5 : gMi l yX3_fails wsX3_fails rm_r_fails G shM q z1 h [.ref (q 0), .int (1 : Int32)] z5.2 h z5.1 := by rw [hz5]; exact c_r_fails l G q z1 h (1 : Int32) s4
    refine x_callVi (n := 1) C hq gFr_same (hmz5) (cwV 1 C.2.2.2.2.2.1 gX3_ifRewritten_X3_fails rfl rfl rfl (by decide +kernel) ⟨Nat.le_of_ble_eq_true rfl, Nat.le_of_ble_eq_true rfl⟩) rfl rfl rfl rfl (Nat.le_of_ble_eq_true rfl) dX3_ifRewritten_33 (Nat.zero_le _) (Nat.zero_le _) ?_
    exact g_iret C hr rfl dX3_ifRewritten_36 (congrArg (fun z => z.1) hf).symm (congrArg (fun z => z.2) hf).symm rfl
  · have hf := hf.trans (if_neg c3)
    have hok := g_in c3 hok
    refine x_aload_n C dX3_ifRewritten_15 rfl 0 rfl ?_
    refine x_iload_n C dX3_ifRewritten_16 rfl 1 rfl ?_
    refine x_aload_n C dX3_ifRewritten_17 rfl 0 rfl ?_
    refine x_get (v := .ref (q 1)) C in_X3_ifRewritten_3 0 rfl rfl 0 (by decide) k_X3_ifRewritten_7 rfl rfl dX3_ifRewritten_18 ?_
    refine x_sipush (v := (358 : Int32)) C dX3_ifRewritten_21 (by decide) ?_
    refine x_iald (n := 364) (v := (z1 1 (358 : Int32).toNatClampNeg)) C 1 rfl (by unfold vp_in; decide) rfl dX3_ifRewritten_24 ?_
    have s6 := And.left hok
    have hok := And.right hok
    obtain ⟨z7, hz7⟩ : ∃ y9 : Int32 × gM, y9 = f_r_rewritten z1 a1 (z1 1 (358 : Int32).toNatClampNeg) := ⟨_, rfl⟩
    have hf := hf.trans (g_let_eq hz7)
    have hok := g_let_p hz7 hok
    have hmz7 : gMi l yX3_rewritten wsX3_rewritten rm_r_rewritten G shM q z1 h [.ref (q 0), .int a1, .int (z1 1 (358 : Int32).toNatClampNeg)] z7.2 h z7.1 := by rw [hz7]; exact c_r_rewritten l G q z1 h a1 (z1 1 (358 : Int32).toNatClampNeg) s6
    refine x_callVi (n := 2) C hq gFr_same (hmz7) (cwV 2 C.2.2.2.2.2.1 gX3_ifRewritten_X3_rewritten rfl rfl rfl (by decide +kernel) ⟨Nat.le_of_ble_eq_true rfl, Nat.le_of_ble_eq_true rfl⟩) rfl rfl rfl rfl (Nat.le_of_ble_eq_true rfl) dX3_ifRewritten_25 (Nat.zero_le _) (Nat.zero_le _) ?_
    refine x_goto (tgt := 36) C dX3_ifRewritten_28 (by decide) ?_
    exact g_iret C hr rfl dX3_ifRewritten_36 (congrArg (fun z => z.1) hf).symm (congrArg (fun z => z.2) hf).symm rfl
abbrev rm_r_best : Room := { frames := 7, cells := 0, slots := 0, locals := 164 }
noncomputable def L_r_best_12 (x1 : Int32) (z : Int32 × Int32 × Int32 × gM) : Bool × (Int32 × Int32 × Int32 × gM) := (if (3 : Int32) ≤ z.2.2.1 then (false, (z.1, z.2.1, z.2.2.1, z.2.2.2)) else g_let (f_r_rewritten z.2.2.2 x1 z.2.2.1) (fun z3 : Int32 × gM => (if z.2.1 ≤ z3.1 then (if z.2.1 ≤ z3.1 then g_let ((z.2.2.1 + (1 : Int32))) (fun z6 : Int32 => (true, (z.1, z.2.1, z6, z3.2))) else g_let ((z.2.2.1 + (1 : Int32))) (fun z7 : Int32 => (true, (z.1, z3.1, z7, z3.2)))) else (if z.2.1 ≤ z3.1 then g_let ((z.2.2.1 + (1 : Int32))) (fun z9 : Int32 => (true, (z.2.2.1, z.2.1, z9, z3.2))) else g_let ((z.2.2.1 + (1 : Int32))) (fun z10 : Int32 => (true, (z.2.2.1, z3.1, z10, z3.2)))))))
noncomputable def K_r_best_12 (x1 : Int32) (z : Int32 × Int32 × Int32 × gM) : Prop := (if (3 : Int32) ≤ z.2.2.1 then True else (o_r_rewritten z.2.2.2 x1 z.2.2.1) ∧ (g_let (f_r_rewritten z.2.2.2 x1 z.2.2.1) (fun z3 : Int32 × gM => (if z.2.1 ≤ z3.1 then (if z.2.1 ≤ z3.1 then g_let ((z.2.2.1 + (1 : Int32))) (fun z6 : Int32 => True) else g_let ((z.2.2.1 + (1 : Int32))) (fun z7 : Int32 => True)) else (if z.2.1 ≤ z3.1 then g_let ((z.2.2.1 + (1 : Int32))) (fun z9 : Int32 => True) else g_let ((z.2.2.1 + (1 : Int32))) (fun z10 : Int32 => True))))))
set_option maxRecDepth 100000 in
set_option maxHeartbeats 4000000 in
theorem lp_r_best_12 {p : Program} {l : Launch} {e : Env} {s : State} {m9 : MethodId} {args : Array Value} {below : List Frame} {meth : Method} {c : Code} {G : gG} {A : Nat → Prop} {Q : State → Prop} {q : Nat → Nat} (C : xC p s m9 args meth c G A 6 cX3_best RX3 wsX3_best) (hq : gD A q shM.length) (h : gN) (x1 : Int32) : ∀ (n : Nat) (z : Int32 × Int32 × Int32 × gM), rOk (L_r_best_12 x1) (K_r_best_12 x1) n z → (∀ z' : Int32 × Int32 × Int32 × gM, run (L_r_best_12 x1) n z = z' → xJ p l e rm_r_best s m9 args below meth c G A 6 Q 0 0 shM q z'.2.2.2 h [(0, .ref (q 0)), (1, .int x1), (2, .int z'.1), (3, .int z'.2.1), (4, .int z'.2.2.1)] [] 59) → xJ p l e rm_r_best s m9 args below meth c G A 6 Q 0 0 shM q z.2.2.2 h [(0, .ref (q 0)), (1, .int x1), (2, .int z.1), (3, .int z.2.1), (4, .int z.2.2.1)] [] 12 := by
  intro n
  induction n with
  | zero =>
    intro z hok _
    exact rOk_0 hok
  | succ n ih =>
    intro z hok K0
    have hnx := rOk_2 hok
    have hok := rOk_1 hok
    have hf := L_r_best_12.eq_1 x1 z
    have hok := Eq.mp (K_r_best_12.eq_1 x1 z) hok
    refine x_iload C dX3_best_12 4 rfl ?_
    refine x_iconst (v := (3 : Int32)) C dX3_best_14 (by decide) ?_
    refine x_icmp_ge (tgt := 59) C dX3_best_15 (by decide) (fun c1 => ?_) (fun c1 => ?_)
    · have hf := hf.trans (if_pos c1)
      have hok := g_ip c1 hok
      exact K0 ((z.1, z.2.1, z.2.2.1, z.2.2.2)) (run_f hf)
    · have hf := hf.trans (if_neg c1)
      have hok := g_in c1 hok
      refine x_aload_n C dX3_best_18 rfl 0 rfl ?_
      refine x_iload_n C dX3_best_19 rfl 1 rfl ?_
      refine x_iload C dX3_best_20 4 rfl ?_
      have s2 := And.left hok
      have hok := And.right hok
      obtain ⟨z3, hz3⟩ : ∃ y9 : Int32 × gM, y9 = f_r_rewritten z.2.2.2 x1 z.2.2.1 := ⟨_, rfl⟩
      have hf := hf.trans (g_let_eq hz3)
      have hok := g_let_p hz3 hok
      have hmz3 : gMi l yX3_rewritten wsX3_rewritten rm_r_rewritten G shM q z.2.2.2 h [.ref (q 0), .int x1, .int z.2.2.1] z3.2 h z3.1 := by rw [hz3]; exact c_r_rewritten l G q z.2.2.2 h x1 z.2.2.1 s2
      refine x_callVi (n := 2) C hq gFr_same (hmz3) (cwV 2 C.2.2.2.2.2.1 gX3_best_X3_rewritten rfl rfl rfl (by decide +kernel) ⟨Nat.le_of_ble_eq_true rfl, Nat.le_of_ble_eq_true rfl⟩) rfl rfl rfl rfl (Nat.le_of_ble_eq_true rfl) dX3_best_22 (Nat.zero_le _) (Nat.zero_le _) ?_
      refine x_istore (lv' := [(0, .ref (q 0)), (1, .int x1), (2, .int z.1), (3, .int z.2.1), (4, .int z.2.2.1), (5, .int z3.1)]) C dX3_best_25 (by decide) [1, 2, 3, 4, 5, 0] rfl ?_
      refine x_iload C dX3_best_27 5 rfl ?_
      refine x_iload_n C dX3_best_29 rfl 3 rfl ?_
      refine x_icmp_ge (tgt := 38) C dX3_best_30 (by decide) (fun c4 => ?_) (fun c4 => ?_)
      · have hf := hf.trans (if_pos c4)
        have hok := g_ip c4 hok
        refine x_iload_n C dX3_best_38 rfl 2 rfl ?_
        refine x_istore_n (lv' := [(0, .ref (q 0)), (1, .int x1), (2, .int z.1), (3, .int z.2.1), (4, .int z.2.2.1), (5, .int z3.1)]) C dX3_best_39 rfl (by decide) [1, 2, 0, 3, 4, 5] rfl ?_
        refine x_iload C dX3_best_40 5 rfl ?_
        refine x_iload_n C dX3_best_42 rfl 3 rfl ?_
        refine x_icmp_ge (tgt := 51) C dX3_best_43 (by decide) (fun c5 => ?_) (fun c5 => ?_)
        · have hf := hf.trans (if_pos c5)
          have hok := g_ip c5 hok
          refine x_iload_n C dX3_best_51 rfl 3 rfl ?_
          refine x_istore_n (lv' := [(0, .ref (q 0)), (1, .int x1), (2, .int z.1), (3, .int z.2.1), (4, .int z.2.2.1), (5, .int z3.1)]) C dX3_best_52 rfl (by decide) [1, 2, 3, 0, 4, 5] rfl ?_
          obtain ⟨z6, hz6⟩ : ∃ y9 : Int32, y9 = (z.2.2.1 + (1 : Int32)) := ⟨_, rfl⟩
          have hf := hf.trans (g_let_eq hz6)
          have hok := g_let_p hz6 hok
          refine x_iinc (v := z6) (lv' := [(0, .ref (q 0)), (1, .int x1), (2, .int z.1), (3, .int z.2.1), (4, .int z6), (5, .int z3.1)]) C dX3_best_53 4 rfl hz6.symm (by decide) [1, 2, 3, 4, 0, 5] rfl ?_
          refine x_goto (tgt := 12) C dX3_best_56 (by decide) ?_
          refine x_lv (lv' := [(0, .ref (q 0)), (1, .int x1), (2, .int z.1), (3, .int z.2.1), (4, .int z6)]) [0, 1, 2, 3, 4] rfl ?_
          exact ih ((z.1, z.2.1, z6, z3.2)) (rOk_t hnx hf) (fun z' hz => K0 z' ((run_t hf).trans hz))
        · have hf := hf.trans (if_neg c5)
          have hok := g_in c5 hok
          refine x_iload C dX3_best_46 5 rfl ?_
          refine x_goto (tgt := 52) C dX3_best_48 (by decide) ?_
          refine x_istore_n (lv' := [(0, .ref (q 0)), (1, .int x1), (2, .int z.1), (3, .int z3.1), (4, .int z.2.2.1), (5, .int z3.1)]) C dX3_best_52 rfl (by decide) [1, 2, 3, 0, 4, 5] rfl ?_
          obtain ⟨z7, hz7⟩ : ∃ y9 : Int32, y9 = (z.2.2.1 + (1 : Int32)) := ⟨_, rfl⟩
          have hf := hf.trans (g_let_eq hz7)
          have hok := g_let_p hz7 hok
          refine x_iinc (v := z7) (lv' := [(0, .ref (q 0)), (1, .int x1), (2, .int z.1), (3, .int z3.1), (4, .int z7), (5, .int z3.1)]) C dX3_best_53 4 rfl hz7.symm (by decide) [1, 2, 3, 4, 0, 5] rfl ?_
          refine x_goto (tgt := 12) C dX3_best_56 (by decide) ?_
          refine x_lv (lv' := [(0, .ref (q 0)), (1, .int x1), (2, .int z.1), (3, .int z3.1), (4, .int z7)]) [0, 1, 2, 3, 4] rfl ?_
          exact ih ((z.1, z3.1, z7, z3.2)) (rOk_t hnx hf) (fun z' hz => K0 z' ((run_t hf).trans hz))
      · have hf := hf.trans (if_neg c4)
        have hok := g_in c4 hok
        refine x_iload C dX3_best_33 4 rfl ?_
        refine x_goto (tgt := 39) C dX3_best_35 (by decide) ?_
        refine x_istore_n (lv' := [(0, .ref (q 0)), (1, .int x1), (2, .int z.2.2.1), (3, .int z.2.1), (4, .int z.2.2.1), (5, .int z3.1)]) C dX3_best_39 rfl (by decide) [1, 2, 0, 3, 4, 5] rfl ?_
        refine x_iload C dX3_best_40 5 rfl ?_
        refine x_iload_n C dX3_best_42 rfl 3 rfl ?_
        refine x_icmp_ge (tgt := 51) C dX3_best_43 (by decide) (fun c8 => ?_) (fun c8 => ?_)
        · have hf := hf.trans (if_pos c8)
          have hok := g_ip c8 hok
          refine x_iload_n C dX3_best_51 rfl 3 rfl ?_
          refine x_istore_n (lv' := [(0, .ref (q 0)), (1, .int x1), (2, .int z.2.2.1), (3, .int z.2.1), (4, .int z.2.2.1), (5, .int z3.1)]) C dX3_best_52 rfl (by decide) [1, 2, 3, 0, 4, 5] rfl ?_
          obtain ⟨z9, hz9⟩ : ∃ y9 : Int32, y9 = (z.2.2.1 + (1 : Int32)) := ⟨_, rfl⟩
          have hf := hf.trans (g_let_eq hz9)
          have hok := g_let_p hz9 hok
          refine x_iinc (v := z9) (lv' := [(0, .ref (q 0)), (1, .int x1), (2, .int z.2.2.1), (3, .int z.2.1), (4, .int z9), (5, .int z3.1)]) C dX3_best_53 4 rfl hz9.symm (by decide) [1, 2, 3, 4, 0, 5] rfl ?_
          refine x_goto (tgt := 12) C dX3_best_56 (by decide) ?_
          refine x_lv (lv' := [(0, .ref (q 0)), (1, .int x1), (2, .int z.2.2.1), (3, .int z.2.1), (4, .int z9)]) [0, 1, 2, 3, 4] rfl ?_
          exact ih ((z.2.2.1, z.2.1, z9, z3.2)) (rOk_t hnx hf) (fun z' hz => K0 z' ((run_t hf).trans hz))
        · have hf := hf.trans (if_neg c8)
          have hok := g_in c8 hok
          refine x_iload C dX3_best_46 5 rfl ?_
          refine x_goto (tgt := 52) C dX3_best_48 (by decide) ?_
          refine x_istore_n (lv' := [(0, .ref (q 0)), (1, .int x1), (2, .int z.2.2.1), (3, .int z3.1), (4, .int z.2.2.1), (5, .int z3.1)]) C dX3_best_52 rfl (by decide) [1, 2, 3, 0, 4, 5] rfl ?_
          obtain ⟨z10, hz10⟩ : ∃ y9 : Int32, y9 = (z.2.2.1 + (1 : Int32)) := ⟨_, rfl⟩
          have hf := hf.trans (g_let_eq hz10)
          have hok := g_let_p hz10 hok
          refine x_iinc (v := z10) (lv' := [(0, .ref (q 0)), (1, .int x1), (2, .int z.2.2.1), (3, .int z3.1), (4, .int z10), (5, .int z3.1)]) C dX3_best_53 4 rfl hz10.symm (by decide) [1, 2, 3, 4, 0, 5] rfl ?_
          refine x_goto (tgt := 12) C dX3_best_56 (by decide) ?_
          refine x_lv (lv' := [(0, .ref (q 0)), (1, .int x1), (2, .int z.2.2.1), (3, .int z3.1), (4, .int z10)]) [0, 1, 2, 3, 4] rfl ?_
          exact ih ((z.2.2.1, z3.1, z10, z3.2)) (rOk_t hnx hf) (fun z' hz => K0 z' ((run_t hf).trans hz))
noncomputable def f_r_best (m : gM) (a1 : Int32) : Int32 × gM := g_let (f_r_rewritten m a1 (0 : Int32)) (fun z2 : Int32 × gM => g_let (run (L_r_best_12 a1) 400 (((0 : Int32), z2.1, (1 : Int32), z2.2))) (fun z4 : Int32 × Int32 × Int32 × gM => (z4.1, z4.2.2.2)))
noncomputable def o_r_best (m : gM) (a1 : Int32) : Prop := (o_r_rewritten m a1 (0 : Int32)) ∧ (g_let (f_r_rewritten m a1 (0 : Int32)) (fun z2 : Int32 × gM => (rOk (L_r_best_12 a1) (K_r_best_12 a1) 400 (((0 : Int32), z2.1, (1 : Int32), z2.2))) ∧ (g_let (run (L_r_best_12 a1) 400 (((0 : Int32), z2.1, (1 : Int32), z2.2))) (fun z4 : Int32 × Int32 × Int32 × gM => True))))
set_option maxRecDepth 100000 in
set_option maxHeartbeats 4000000 in
theorem c_r_best (l : Launch) (G : gG) (q : Nat → Nat) (m : gM) (h : gN) (a1 : Int32) (hok : o_r_best m a1) : gMi l yX3_best wsX3_best rm_r_best G shM q m h [.ref (q 0), .int a1] ((f_r_best m a1).2) h ((f_r_best m a1).1) := by
  intro sz
  refine g_met (cc := cX3_best) (maxL := 6) (ret := (some .int)) (own := RX3) (Qc := fun sz => gQi G shM q ((f_r_best m a1).2) h sz ((f_r_best m a1).1)) (by decide) rfl rfl (Nat.le_of_ble_eq_true rfl) (fun p e s m9 below meth c C hq hr => ?_)
  refine x_lv (lv' := [(0, .ref (q 0)), (1, .int a1)]) [0, 1] rfl ?_
  have hf := f_r_best.eq_1 m a1
  have hok := Eq.mp (o_r_best.eq_1 m a1) hok
  refine x_iconst (v := (0 : Int32)) C dX3_best_0 (by decide) ?_
  refine x_istore_n (lv' := [(0, .ref (q 0)), (1, .int a1), (2, .int (0 : Int32))]) C dX3_best_1 rfl (by decide) [1, 2, 0] rfl ?_
  refine x_aload_n C dX3_best_2 rfl 0 rfl ?_
  refine x_iload_n C dX3_best_3 rfl 1 rfl ?_
  refine x_iconst (v := (0 : Int32)) C dX3_best_4 (by decide) ?_
  have s1 := And.left hok
  have hok := And.right hok
  obtain ⟨z2, hz2⟩ : ∃ y9 : Int32 × gM, y9 = f_r_rewritten m a1 (0 : Int32) := ⟨_, rfl⟩
  have hf := hf.trans (g_let_eq hz2)
  have hok := g_let_p hz2 hok
  have hmz2 : gMi l yX3_rewritten wsX3_rewritten rm_r_rewritten G shM q m h [.ref (q 0), .int a1, .int (0 : Int32)] z2.2 h z2.1 := by rw [hz2]; exact c_r_rewritten l G q m h a1 (0 : Int32) s1
  refine x_callVi (n := 2) C hq gFr_same (hmz2) (cwV 2 C.2.2.2.2.2.1 gX3_best_X3_rewritten rfl rfl rfl (by decide +kernel) ⟨Nat.le_of_ble_eq_true rfl, Nat.le_of_ble_eq_true rfl⟩) rfl rfl rfl rfl (Nat.le_of_ble_eq_true rfl) dX3_best_5 (Nat.zero_le _) (Nat.zero_le _) ?_
  refine x_istore_n (lv' := [(0, .ref (q 0)), (1, .int a1), (2, .int (0 : Int32)), (3, .int z2.1)]) C dX3_best_8 rfl (by decide) [1, 2, 3, 0] rfl ?_
  refine x_iconst (v := (1 : Int32)) C dX3_best_9 (by decide) ?_
  refine x_istore (lv' := [(0, .ref (q 0)), (1, .int a1), (2, .int (0 : Int32)), (3, .int z2.1), (4, .int (1 : Int32))]) C dX3_best_10 (by decide) [1, 2, 3, 4, 0] rfl ?_
  have s3 := And.left hok
  have hok := And.right hok
  refine lp_r_best_12 C hq h a1 400 (((0 : Int32), z2.1, (1 : Int32), z2.2)) s3 (fun z4 hz4 => ?_)
  have hf := hf.trans (g_let_eq hz4.symm)
  have hok := g_let_p hz4.symm hok
  refine x_iload_n C dX3_best_59 rfl 2 rfl ?_
  exact g_iret C hr rfl dX3_best_60 (congrArg (fun z => z.1) hf).symm (congrArg (fun z => z.2) hf).symm rfl
set_option maxRecDepth 20000 in
theorem in_X3_bestRule_3 : ∀ w ∈ u_ws RX3 TX3 12, w ∈ wsX3_bestRule := by decide +kernel
set_option maxRecDepth 20000 in
theorem k_X3_bestRule_25 : Cond.fieldLink RX3 25 "HintedPagesModel" "thrown" "I" ∈ wsX3_bestRule := by decide +kernel
abbrev rm_r_bestRule : Room := { frames := 8, cells := 0, slots := 0, locals := 189 }
noncomputable def f_r_bestRule (m : gM) (a1 : Int32) : Int32 × gM := g_let (g_set m 0 (upd (m 0) 6 (0 : Int32))) (fun z1 : gM => (if (f_r_in a1 (1 : Int32) (9 : Int32)) = 0 then g_let (f_r_fails z1 (1 : Int32)) (fun z5 : Int32 × gM => (z5.1, z5.2)) else g_let (f_r_best z1 a1) (fun z7 : Int32 × gM => (z7.1, z7.2))))
noncomputable def o_r_bestRule (m : gM) (a1 : Int32) : Prop := g_let (g_set m 0 (upd (m 0) 6 (0 : Int32))) (fun z1 : gM => (o_r_in a1 (1 : Int32) (9 : Int32)) ∧ ((if (f_r_in a1 (1 : Int32) (9 : Int32)) = 0 then (o_r_fails z1 (1 : Int32)) ∧ (g_let (f_r_fails z1 (1 : Int32)) (fun z5 : Int32 × gM => True)) else (o_r_best z1 a1) ∧ (g_let (f_r_best z1 a1) (fun z7 : Int32 × gM => True)))))
set_option maxRecDepth 100000 in
set_option maxHeartbeats 4000000 in
theorem c_r_bestRule (l : Launch) (G : gG) (q : Nat → Nat) (m : gM) (h : gN) (a1 : Int32) (hok : o_r_bestRule m a1) : gMi l yX3_bestRule wsX3_bestRule rm_r_bestRule G shM q m h [.ref (q 0), .int a1] ((f_r_bestRule m a1).2) h ((f_r_bestRule m a1).1) := by
  intro sz
  refine g_met (cc := cX3_bestRule) (maxL := 2) (ret := (some .int)) (own := RX3) (Qc := fun sz => gQi G shM q ((f_r_bestRule m a1).2) h sz ((f_r_bestRule m a1).1)) (by decide) rfl rfl (Nat.le_of_ble_eq_true rfl) (fun p e s m9 below meth c C hq hr => ?_)
  refine x_lv (lv' := [(0, .ref (q 0)), (1, .int a1)]) [0, 1] rfl ?_
  have hf := f_r_bestRule.eq_1 m a1
  have hok := Eq.mp (o_r_bestRule.eq_1 m a1) hok
  refine x_aload_n C dX3_bestRule_0 rfl 0 rfl ?_
  refine x_iconst (v := (0 : Int32)) C dX3_bestRule_1 (by decide) ?_
  obtain ⟨z1, hz1⟩ : ∃ y9 : gM, y9 = g_set m 0 (upd (m 0) 6 (0 : Int32)) := ⟨_, rfl⟩
  have hf := hf.trans (g_let_eq hz1)
  have hok := g_let_p hz1 hok
  refine x_puti (μ' := z1) (ty := .int) C hq tyX3 tyX3_ok nmX3 in_X3_bestRule_3 0 rfl rfl 6 (by decide) k_X3_bestRule_25 rfl (tyX3_ok 6 (by decide)) rfl rfl rfl hz1 dX3_bestRule_2 ?_
  refine x_iload_n C dX3_bestRule_5 rfl 1 rfl ?_
  refine x_iconst (v := (1 : Int32)) C dX3_bestRule_6 (by decide) ?_
  refine x_bipush (v := (9 : Int32)) C dX3_bestRule_7 (by decide) ?_
  have s2 := And.left hok
  have hok := And.right hok
  refine x_callSi (n := 3) C hq (gFr_pure gs_M_0_) (c_r_in l G (g_sel [] q) (g_sel [] z1) (g_sel [] h) a1 (1 : Int32) (9 : Int32) s2) (va_cwS 3 C.2.2.2.2.2.1 gX3_bestRule_X3_in rfl rfl rfl (by decide +kernel) ⟨Nat.le_of_ble_eq_true rfl, Nat.le_of_ble_eq_true rfl⟩) rfl rfl (Nat.le_of_ble_eq_true rfl) dX3_bestRule_9 (Nat.zero_le _) (Nat.zero_le _) ?_
  refine x_if_eq (tgt := 23) C dX3_bestRule_12 (by decide) (fun c3 => ?_) (fun c3 => ?_)
  · have hf := hf.trans (if_pos c3)
    have hok := g_ip c3 hok
    refine x_aload_n C dX3_bestRule_23 rfl 0 rfl ?_
    refine x_iconst (v := (1 : Int32)) C dX3_bestRule_24 (by decide) ?_
    have s4 := And.left hok
    have hok := And.right hok
    obtain ⟨z5, hz5⟩ : ∃ y9 : Int32 × gM, y9 = f_r_fails z1 (1 : Int32) := ⟨_, rfl⟩
    have hf := hf.trans (g_let_eq hz5)
    have hok := g_let_p hz5 hok
    have hmz5 : gMi l yX3_fails wsX3_fails rm_r_fails G shM q z1 h [.ref (q 0), .int (1 : Int32)] z5.2 h z5.1 := by rw [hz5]; exact c_r_fails l G q z1 h (1 : Int32) s4
    refine x_callVi (n := 1) C hq gFr_same (hmz5) (cwV 1 C.2.2.2.2.2.1 gX3_bestRule_X3_fails rfl rfl rfl (by decide +kernel) ⟨Nat.le_of_ble_eq_true rfl, Nat.le_of_ble_eq_true rfl⟩) rfl rfl rfl rfl (Nat.le_of_ble_eq_true rfl) dX3_bestRule_25 (Nat.zero_le _) (Nat.zero_le _) ?_
    exact g_iret C hr rfl dX3_bestRule_28 (congrArg (fun z => z.1) hf).symm (congrArg (fun z => z.2) hf).symm rfl
  · have hf := hf.trans (if_neg c3)
    have hok := g_in c3 hok
    refine x_aload_n C dX3_bestRule_15 rfl 0 rfl ?_
    refine x_iload_n C dX3_bestRule_16 rfl 1 rfl ?_
    have s6 := And.left hok
    have hok := And.right hok
    obtain ⟨z7, hz7⟩ : ∃ y9 : Int32 × gM, y9 = f_r_best z1 a1 := ⟨_, rfl⟩
    have hf := hf.trans (g_let_eq hz7)
    have hok := g_let_p hz7 hok
    have hmz7 : gMi l yX3_best wsX3_best rm_r_best G shM q z1 h [.ref (q 0), .int a1] z7.2 h z7.1 := by rw [hz7]; exact c_r_best l G q z1 h a1 s6
    refine x_callVi (n := 1) C hq gFr_same (hmz7) (cwV 1 C.2.2.2.2.2.1 gX3_bestRule_X3_best rfl rfl rfl (by decide +kernel) ⟨Nat.le_of_ble_eq_true rfl, Nat.le_of_ble_eq_true rfl⟩) rfl rfl rfl rfl (Nat.le_of_ble_eq_true rfl) dX3_bestRule_17 (Nat.zero_le _) (Nat.zero_le _) ?_
    refine x_goto (tgt := 28) C dX3_bestRule_20 (by decide) ?_
    exact g_iret C hr rfl dX3_bestRule_28 (congrArg (fun z => z.1) hf).symm (congrArg (fun z => z.2) hf).symm rfl
set_option maxRecDepth 20000 in
theorem in_X3_amplified_3 : ∀ w ∈ u_ws RX3 TX3 12, w ∈ wsX3_amplified := by decide +kernel
set_option maxRecDepth 20000 in
theorem k_X3_amplified_7 : Cond.fieldLink RX3 7 "HintedPagesModel" "now" "[I" ∈ wsX3_amplified := by decide +kernel
abbrev rm_r_amplified : Room := { frames := 0, cells := 0, slots := 0, locals := 0 }
noncomputable def f_r_amplified (m : gM) : UInt64 := g_let ((m 1 (360 : Int32).toNatClampNeg)) (fun z1 : Int32 => (if z1 = 0 then FP.dconst1 else (FP.ddiv (FP.i2d (z1 + (m 1 (361 : Int32).toNatClampNeg))) (FP.i2d z1))))
noncomputable def o_r_amplified (m : gM) : Prop := g_let ((m 1 (360 : Int32).toNatClampNeg)) (fun z1 : Int32 => (if z1 = 0 then True else (vf_n64 (FP.ddiv (FP.i2d (z1 + (m 1 (361 : Int32).toNatClampNeg))) (FP.i2d z1))) ∧ (True)))
set_option maxRecDepth 100000 in
set_option maxHeartbeats 4000000 in
theorem c_r_amplified (l : Launch) (G : gG) (q : Nat → Nat) (m : gM) (h : gN) (hok : o_r_amplified m) : gMd l yX3_amplified wsX3_amplified rm_r_amplified G shM q m h [.ref (q 0)] m h (f_r_amplified m) := by
  intro sz
  refine g_met (cc := cX3_amplified) (maxL := 2) (ret := (some .double)) (own := RX3) (Qc := fun sz => gQd G shM q m h sz (f_r_amplified m)) (by decide) rfl rfl (Nat.le_of_ble_eq_true rfl) (fun p e s m9 below meth c C hq hr => ?_)
  refine x_lv (lv' := [(0, .ref (q 0))]) [0] rfl ?_
  have hf := f_r_amplified.eq_1 m
  have hok := Eq.mp (o_r_amplified.eq_1 m) hok
  refine x_aload_n C dX3_amplified_0 rfl 0 rfl ?_
  refine x_get (v := .ref (q 1)) C in_X3_amplified_3 0 rfl rfl 0 (by decide) k_X3_amplified_7 rfl rfl dX3_amplified_1 ?_
  refine x_sipush (v := (360 : Int32)) C dX3_amplified_4 (by decide) ?_
  refine x_iald (n := 364) (v := (m 1 (360 : Int32).toNatClampNeg)) C 1 rfl (by unfold vp_in; decide) rfl dX3_amplified_7 ?_
  obtain ⟨z1, hz1⟩ : ∃ y9 : Int32, y9 = (m 1 (360 : Int32).toNatClampNeg) := ⟨_, rfl⟩
  have hf := hf.trans (g_let_eq hz1)
  have hok := g_let_p hz1 hok
  refine x_topi hz1 ?_
  refine x_istore_n (lv' := [(0, .ref (q 0)), (1, .int z1)]) C dX3_amplified_8 rfl (by decide) [1, 0] rfl ?_
  refine x_iload_n C dX3_amplified_9 rfl 1 rfl ?_
  refine x_if_ne (tgt := 17) C dX3_amplified_10 (by decide) (fun c2 => ?_) (fun c2 => ?_)
  · have hf := hf.trans (if_neg c2)
    have hok := g_in c2 hok
    refine x_iload_n C dX3_amplified_17 rfl 1 rfl ?_
    refine x_aload_n C dX3_amplified_18 rfl 0 rfl ?_
    refine x_get (v := .ref (q 1)) C in_X3_amplified_3 0 rfl rfl 0 (by decide) k_X3_amplified_7 rfl rfl dX3_amplified_19 ?_
    refine x_sipush (v := (361 : Int32)) C dX3_amplified_22 (by decide) ?_
    refine x_iald (n := 364) (v := (m 1 (361 : Int32).toNatClampNeg)) C 1 rfl (by unfold vp_in; decide) rfl dX3_amplified_25 ?_
    refine x_iadd C dX3_amplified_26 ?_
    refine x_i2d C dX3_amplified_27 ?_
    refine x_iload_n C dX3_amplified_28 rfl 1 rfl ?_
    refine x_i2d C dX3_amplified_29 ?_
    have s3 := And.left hok
    have hok := And.right hok
    refine x_ddiv C dX3_amplified_30 s3 ?_
    exact g_dret C hr dX3_amplified_31 hf.symm rfl rfl
  · have hf := hf.trans (if_pos c2)
    have hok := g_ip c2 hok
    refine x_dconst1 C dX3_amplified_13 ?_
    refine x_goto (tgt := 31) C dX3_amplified_14 (by decide) ?_
    exact g_dret C hr dX3_amplified_31 hf.symm rfl rfl
set_option maxRecDepth 20000 in
theorem in_X3_amplification_3 : ∀ w ∈ u_ws RX3 TX3 12, w ∈ wsX3_amplification := by decide +kernel
set_option maxRecDepth 20000 in
theorem k_X3_amplification_25 : Cond.fieldLink RX3 25 "HintedPagesModel" "thrown" "I" ∈ wsX3_amplification := by decide +kernel
abbrev rm_r_amplification : Room := { frames := 1, cells := 0, slots := 0, locals := 21 }
noncomputable def f_r_amplification (m : gM) : UInt64 × gM := g_let (g_set m 0 (upd (m 0) 6 (0 : Int32))) (fun z1 : gM => ((f_r_amplified z1), z1))
noncomputable def o_r_amplification (m : gM) : Prop := g_let (g_set m 0 (upd (m 0) 6 (0 : Int32))) (fun z1 : gM => (o_r_amplified z1) ∧ (True))
set_option maxRecDepth 100000 in
set_option maxHeartbeats 4000000 in
theorem c_r_amplification (l : Launch) (G : gG) (q : Nat → Nat) (m : gM) (h : gN) (hok : o_r_amplification m) : gMd l yX3_amplification wsX3_amplification rm_r_amplification G shM q m h [.ref (q 0)] ((f_r_amplification m).2) h ((f_r_amplification m).1) := by
  intro sz
  refine g_met (cc := cX3_amplification) (maxL := 1) (ret := (some .double)) (own := RX3) (Qc := fun sz => gQd G shM q ((f_r_amplification m).2) h sz ((f_r_amplification m).1)) (by decide) rfl rfl (Nat.le_of_ble_eq_true rfl) (fun p e s m9 below meth c C hq hr => ?_)
  refine x_lv (lv' := [(0, .ref (q 0))]) [0] rfl ?_
  have hf := f_r_amplification.eq_1 m
  have hok := Eq.mp (o_r_amplification.eq_1 m) hok
  refine x_aload_n C dX3_amplification_0 rfl 0 rfl ?_
  refine x_iconst (v := (0 : Int32)) C dX3_amplification_1 (by decide) ?_
  obtain ⟨z1, hz1⟩ : ∃ y9 : gM, y9 = g_set m 0 (upd (m 0) 6 (0 : Int32)) := ⟨_, rfl⟩
  have hf := hf.trans (g_let_eq hz1)
  have hok := g_let_p hz1 hok
  refine x_puti (μ' := z1) (ty := .int) C hq tyX3 tyX3_ok nmX3 in_X3_amplification_3 0 rfl rfl 6 (by decide) k_X3_amplification_25 rfl (tyX3_ok 6 (by decide)) rfl rfl rfl hz1 dX3_amplification_2 ?_
  refine x_aload_n C dX3_amplification_5 rfl 0 rfl ?_
  have s2 := And.left hok
  have hok := And.right hok
  refine x_callVd (n := 0) C hq gFr_same (c_r_amplified l G q z1 h s2) (cwV 0 C.2.2.2.2.2.1 gX3_amplification_X3_amplified rfl rfl rfl (by decide +kernel) ⟨Nat.le_of_ble_eq_true rfl, Nat.le_of_ble_eq_true rfl⟩) rfl rfl rfl rfl (Nat.le_of_ble_eq_true rfl) dX3_amplification_6 (Nat.zero_le _) (Nat.zero_le _) ?_
  exact g_dret C hr dX3_amplification_9 (congrArg (fun z => z.1) hf).symm (congrArg (fun z => z.2) hf).symm rfl
abbrev rm_j_isNaN : Room := { frames := 0, cells := 0, slots := 0, locals := 0 }
noncomputable def f_j_isNaN (a1 : UInt64) : Int32 := (if (Op.cmpValue (FP.dcmp a1 a1) .l) = 0 then (0 : Int32) else (1 : Int32))
noncomputable def o_j_isNaN (a1 : UInt64) : Prop := (if (Op.cmpValue (FP.dcmp a1 a1) .l) = 0 then True else True)
set_option maxRecDepth 100000 in
set_option maxHeartbeats 4000000 in
theorem c_j_isNaN (l : Launch) (G : gG) (q : Nat → Nat) (m : gM) (h : gN) (a1 : UInt64) (hok : o_j_isNaN a1) : gMi l yJxe99ae_isNaN_b9ae7 wsJxe99ae_isNaN_b9ae7 rm_j_isNaN G sh0 q m h [.double a1] m h (f_j_isNaN a1) := by
  intro sz
  refine g_met (cc := cJxe99ae_isNaN_b9ae7) (maxL := 2) (ret := (some .boolean)) (own := RJxe99ae) (Qc := fun sz => gQi G sh0 q m h sz (f_j_isNaN a1)) (by decide) rfl rfl (Nat.le_of_ble_eq_true rfl) (fun p e s m9 below meth c C hq hr => ?_)
  refine x_lv (lv' := [(0, .double a1)]) [0] rfl ?_
  have hf := f_j_isNaN.eq_1 a1
  have hok := Eq.mp (o_j_isNaN.eq_1 a1) hok
  refine x_dload_n C dJxe99ae_isNaN_b9ae7_0 rfl 0 rfl ?_
  refine x_dload_n C dJxe99ae_isNaN_b9ae7_1 rfl 0 rfl ?_
  refine x_dcmp C dJxe99ae_isNaN_b9ae7_2 ?_
  refine x_if_eq (tgt := 10) C dJxe99ae_isNaN_b9ae7_3 (by decide) (fun c1 => ?_) (fun c1 => ?_)
  · have hf := hf.trans (if_pos c1)
    have hok := g_ip c1 hok
    refine x_iconst (v := (0 : Int32)) C dJxe99ae_isNaN_b9ae7_10 (by decide) ?_
    exact g_iret C hr (g_nz (Or.inl rfl)) dJxe99ae_isNaN_b9ae7_11 hf.symm rfl rfl
  · have hf := hf.trans (if_neg c1)
    have hok := g_in c1 hok
    refine x_iconst (v := (1 : Int32)) C dJxe99ae_isNaN_b9ae7_6 (by decide) ?_
    refine x_goto (tgt := 11) C dJxe99ae_isNaN_b9ae7_7 (by decide) ?_
    exact g_iret C hr (g_nz (Or.inr rfl)) dJxe99ae_isNaN_b9ae7_11 hf.symm rfl rfl
set_option maxRecDepth 20000 in
theorem kc_Jxe99ae_doubleToLongBits_ccdee_137 : Cond.constantLong RJxe99ae 137 (9221120237041090560) ∈ wsJxe99ae_doubleToLongBits_ccdee := by decide +kernel
set_option maxRecDepth 20000 in
theorem k_Jxe99ae_doubleToLongBits_ccdee_raw1 : Cond.methodLink RJxe99ae 134 ⟨"java/lang/Double", "doubleToRawLongBits", "(D)J"⟩ ∈ wsJxe99ae_doubleToLongBits_ccdee := by decide +kernel
set_option maxRecDepth 20000 in
theorem k_Jxe99ae_doubleToLongBits_ccdee_raw2 : Cond.native ⟨"java/lang/Double", "doubleToRawLongBits", "(D)J"⟩ ∈ wsJxe99ae_doubleToLongBits_ccdee := by decide +kernel
set_option maxRecDepth 20000 in
theorem k_Jxe99ae_doubleToLongBits_ccdee_raw3 : Cond.static ⟨"java/lang/Double", "doubleToRawLongBits", "(D)J"⟩ ∈ wsJxe99ae_doubleToLongBits_ccdee := by decide +kernel
set_option maxRecDepth 20000 in
theorem k_Jxe99ae_doubleToLongBits_ccdee_raw4 : Cond.initialized "java/lang/Double" ∈ wsJxe99ae_doubleToLongBits_ccdee := by decide +kernel
abbrev rm_j_d2l : Room := { frames := 1, cells := 0, slots := 0, locals := 23 }
noncomputable def f_j_d2l (a1 : UInt64) : Int64 := (if (f_j_isNaN a1) = 0 then (UInt64.toInt64 a1) else (9221120237041090560 : Int64))
noncomputable def o_j_d2l (a1 : UInt64) : Prop := (o_j_isNaN a1) ∧ ((if (f_j_isNaN a1) = 0 then True else True))
set_option maxRecDepth 100000 in
set_option maxHeartbeats 4000000 in
theorem c_j_d2l (l : Launch) (G : gG) (q : Nat → Nat) (m : gM) (h : gN) (a1 : UInt64) (hok : o_j_d2l a1) : gMl l yJxe99ae_doubleToLongBits_ccdee wsJxe99ae_doubleToLongBits_ccdee rm_j_d2l G sh0 q m h [.double a1] m h (f_j_d2l a1) := by
  intro sz
  refine g_met (cc := cJxe99ae_doubleToLongBits_ccdee) (maxL := 2) (ret := (some .long)) (own := RJxe99ae) (Qc := fun sz => gQl G sh0 q m h sz (f_j_d2l a1)) (by decide) rfl rfl (Nat.le_of_ble_eq_true rfl) (fun p e s m9 below meth c C hq hr => ?_)
  refine x_lv (lv' := [(0, .double a1)]) [0] rfl ?_
  have hf := f_j_d2l.eq_1 a1
  have hok := Eq.mp (o_j_d2l.eq_1 a1) hok
  refine x_dload_n C dJxe99ae_doubleToLongBits_ccdee_0 rfl 0 rfl ?_
  have s1 := And.left hok
  have hok := And.right hok
  refine x_callSi (n := 1) C hq gFr_same (c_j_isNaN l G q m h a1 s1) (va_cwS 1 C.2.2.2.2.2.1 gJxe99ae_doubleToLongBits_ccdee_Jxe99ae_isNaN_b9ae7 rfl rfl rfl (by decide +kernel) ⟨Nat.le_of_ble_eq_true rfl, Nat.le_of_ble_eq_true rfl⟩) rfl rfl (Nat.le_of_ble_eq_true rfl) dJxe99ae_doubleToLongBits_ccdee_1 (Nat.zero_le _) (Nat.zero_le _) ?_
  refine x_if_ne (tgt := 12) C dJxe99ae_doubleToLongBits_ccdee_4 (by decide) (fun c2 => ?_) (fun c2 => ?_)
  · have hf := hf.trans (if_neg c2)
    have hok := g_in c2 hok
    refine x_ldc2 (v := (9221120237041090560 : Int64)) C kc_Jxe99ae_doubleToLongBits_ccdee_137 dJxe99ae_doubleToLongBits_ccdee_12 ?_
    exact g_lret C hr dJxe99ae_doubleToLongBits_ccdee_15 hf.symm rfl rfl
  · have hf := hf.trans (if_pos c2)
    have hok := g_ip c2 hok
    refine x_dload_n C dJxe99ae_doubleToLongBits_ccdee_7 rfl 0 rfl ?_
    refine x_d2raw C k_Jxe99ae_doubleToLongBits_ccdee_raw1 k_Jxe99ae_doubleToLongBits_ccdee_raw2 k_Jxe99ae_doubleToLongBits_ccdee_raw3 k_Jxe99ae_doubleToLongBits_ccdee_raw4 (Nat.le_of_ble_eq_true rfl) (Nat.le_of_ble_eq_true rfl) dJxe99ae_doubleToLongBits_ccdee_8 ?_
    exact g_lret C hr dJxe99ae_doubleToLongBits_ccdee_11 hf.symm rfl rfl
set_option maxRecDepth 20000 in
theorem in_X3_mixes_3 : ∀ w ∈ u_ws RX3 TX3 12, w ∈ wsX3_mixes := by decide +kernel
set_option maxRecDepth 20000 in
theorem kc_X3_mixes_177 : Cond.constantLong RX3 177 (31) ∈ wsX3_mixes := by decide +kernel
set_option maxRecDepth 20000 in
theorem k_X3_mixes_179 : Cond.fieldLink RX3 179 "HintedPagesModel" "hash" "J" ∈ wsX3_mixes := by decide +kernel
abbrev rm_r_mixes : Room := { frames := 0, cells := 0, slots := 0, locals := 0 }
noncomputable def f_r_mixes (m : gM) (h : gN) (a1 : Int64) : gN := g_let (g_setN h 0 (vp_updL (h 0) 11 (((31 : Int64) * (h 0 11)) + a1))) (fun z1 : gN => z1)
noncomputable def o_r_mixes (m : gM) (h : gN) (a1 : Int64) : Prop := g_let (g_setN h 0 (vp_updL (h 0) 11 (((31 : Int64) * (h 0 11)) + a1))) (fun z1 : gN => True)
set_option maxRecDepth 100000 in
set_option maxHeartbeats 4000000 in
theorem c_r_mixes (l : Launch) (G : gG) (q : Nat → Nat) (m : gM) (h : gN) (a1 : Int64) (hok : o_r_mixes m h a1) : gMv l yX3_mixes wsX3_mixes rm_r_mixes G shM q m h [.ref (q 0), .long a1] m (f_r_mixes m h a1) := by
  intro sz
  refine g_met (cc := cX3_mixes) (maxL := 3) (ret := none) (own := RX3) (Qc := fun sz => gQv G shM q m (f_r_mixes m h a1) sz) (by decide) rfl rfl (Nat.le_of_ble_eq_true rfl) (fun p e s m9 below meth c C hq hr => ?_)
  refine x_lv (lv' := [(0, .ref (q 0)), (1, .long a1)]) [0, 1] rfl ?_
  have hf := f_r_mixes.eq_1 m h a1
  have hok := Eq.mp (o_r_mixes.eq_1 m h a1) hok
  refine x_aload_n C dX3_mixes_0 rfl 0 rfl ?_
  refine x_ldc2 (v := (31 : Int64)) C kc_X3_mixes_177 dX3_mixes_1 ?_
  refine x_aload_n C dX3_mixes_4 rfl 0 rfl ?_
  refine x_get (v := .long (h 0 11)) C in_X3_mixes_3 0 rfl rfl 11 (by decide) k_X3_mixes_179 rfl rfl dX3_mixes_5 ?_
  refine x_lmul C dX3_mixes_8 ?_
  refine x_lload_n C dX3_mixes_9 rfl 1 rfl ?_
  refine x_ladd C dX3_mixes_10 ?_
  obtain ⟨z1, hz1⟩ : ∃ y9 : gN, y9 = g_setN h 0 (vp_updL (h 0) 11 (((31 : Int64) * (h 0 11)) + a1)) := ⟨_, rfl⟩
  have hf := hf.trans (g_let_eq hz1)
  have hok := g_let_p hz1 hok
  refine x_putl (ν' := z1) C hq tyX3 tyX3_ok nmX3 in_X3_mixes_3 0 rfl rfl 11 (by decide) k_X3_mixes_179 rfl (tyX3_ok 11 (by decide)) rfl hz1 dX3_mixes_11 ?_
  exact g_vret C hr dX3_mixes_14 rfl hf.symm
set_option maxRecDepth 20000 in
theorem in_X3_mixesBlock_3 : ∀ w ∈ u_ws RX3 TX3 12, w ∈ wsX3_mixesBlock := by decide +kernel
set_option maxRecDepth 20000 in
theorem k_X3_mixesBlock_7 : Cond.fieldLink RX3 7 "HintedPagesModel" "now" "[I" ∈ wsX3_mixesBlock := by decide +kernel
abbrev rm_r_mixesBlock : Room := { frames := 4, cells := 0, slots := 0, locals := 90 }
noncomputable def L_r_mixesBlock_2 (m : gM) (x1 : Int32) (z : Int32 × gN) : Bool × (Int32 × gN) := (if (8 : Int32) ≤ z.1 then (false, (z.1, z.2)) else g_let (f_r_mixes m z.2 ((f_r_ofBlock m x1 z.1).toInt64)) (fun z4 : gN => g_let ((z.1 + (1 : Int32))) (fun z5 : Int32 => (true, (z5, z4)))))
noncomputable def K_r_mixesBlock_2 (m : gM) (x1 : Int32) (z : Int32 × gN) : Prop := (if (8 : Int32) ≤ z.1 then True else (o_r_ofBlock m x1 z.1) ∧ ((o_r_mixes m z.2 ((f_r_ofBlock m x1 z.1).toInt64)) ∧ (g_let (f_r_mixes m z.2 ((f_r_ofBlock m x1 z.1).toInt64)) (fun z4 : gN => g_let ((z.1 + (1 : Int32))) (fun z5 : Int32 => True)))))
set_option maxRecDepth 100000 in
set_option maxHeartbeats 4000000 in
theorem lp_r_mixesBlock_2 {p : Program} {l : Launch} {e : Env} {s : State} {m9 : MethodId} {args : Array Value} {below : List Frame} {meth : Method} {c : Code} {G : gG} {A : Nat → Prop} {Q : State → Prop} {q : Nat → Nat} (C : xC p s m9 args meth c G A 3 cX3_mixesBlock RX3 wsX3_mixesBlock) (hq : gD A q shM.length) (m : gM) (x1 : Int32) : ∀ (n : Nat) (z : Int32 × gN), rOk (L_r_mixesBlock_2 m x1) (K_r_mixesBlock_2 m x1) n z → (∀ z' : Int32 × gN, run (L_r_mixesBlock_2 m x1) n z = z' → xJ p l e rm_r_mixesBlock s m9 args below meth c G A 3 Q 0 0 shM q m z'.2 [(0, .ref (q 0)), (1, .int x1), (2, .int z'.1)] [] 25) → xJ p l e rm_r_mixesBlock s m9 args below meth c G A 3 Q 0 0 shM q m z.2 [(0, .ref (q 0)), (1, .int x1), (2, .int z.1)] [] 2 := by
  intro n
  induction n with
  | zero =>
    intro z hok _
    exact rOk_0 hok
  | succ n ih =>
    intro z hok K0
    have hnx := rOk_2 hok
    have hok := rOk_1 hok
    have hf := L_r_mixesBlock_2.eq_1 m x1 z
    have hok := Eq.mp (K_r_mixesBlock_2.eq_1 m x1 z) hok
    refine x_iload_n C dX3_mixesBlock_2 rfl 2 rfl ?_
    refine x_bipush (v := (8 : Int32)) C dX3_mixesBlock_3 (by decide) ?_
    refine x_icmp_ge (tgt := 25) C dX3_mixesBlock_5 (by decide) (fun c1 => ?_) (fun c1 => ?_)
    · have hf := hf.trans (if_pos c1)
      have hok := g_ip c1 hok
      exact K0 ((z.1, z.2)) (run_f hf)
    · have hf := hf.trans (if_neg c1)
      have hok := g_in c1 hok
      refine x_aload_n C dX3_mixesBlock_8 rfl 0 rfl ?_
      refine x_aload_n C dX3_mixesBlock_9 rfl 0 rfl ?_
      refine x_iload_n C dX3_mixesBlock_10 rfl 1 rfl ?_
      refine x_iload_n C dX3_mixesBlock_11 rfl 2 rfl ?_
      have s2 := And.left hok
      have hok := And.right hok
      refine x_callVi (n := 2) C hq gFr_same (c_r_ofBlock l G q m z.2 x1 z.1 s2) (cwV 2 C.2.2.2.2.2.1 gX3_mixesBlock_X3_ofBlock rfl rfl rfl (by decide +kernel) ⟨Nat.le_of_ble_eq_true rfl, Nat.le_of_ble_eq_true rfl⟩) rfl rfl rfl rfl (Nat.le_of_ble_eq_true rfl) dX3_mixesBlock_12 (Nat.zero_le _) (Nat.zero_le _) ?_
      refine x_i2l C dX3_mixesBlock_15 rfl ?_
      have s3 := And.left hok
      have hok := And.right hok
      obtain ⟨z4, hz4⟩ : ∃ y9 : gN, y9 = f_r_mixes m z.2 ((f_r_ofBlock m x1 z.1).toInt64) := ⟨_, rfl⟩
      have hf := hf.trans (g_let_eq hz4)
      have hok := g_let_p hz4 hok
      have hmz4 : gMv l yX3_mixes wsX3_mixes rm_r_mixes G shM q m z.2 [.ref (q 0), .long ((f_r_ofBlock m x1 z.1).toInt64)] m z4 := by rw [hz4]; exact c_r_mixes l G q m z.2 ((f_r_ofBlock m x1 z.1).toInt64) s3
      refine x_callVv (n := 1) C hq gFr_same (hmz4) (cwV 1 C.2.2.2.2.2.1 gX3_mixesBlock_X3_mixes rfl rfl rfl (by decide +kernel) ⟨Nat.le_of_ble_eq_true rfl, Nat.le_of_ble_eq_true rfl⟩) rfl rfl rfl rfl (Nat.le_of_ble_eq_true rfl) dX3_mixesBlock_16 (Nat.zero_le _) (Nat.zero_le _) ?_
      obtain ⟨z5, hz5⟩ : ∃ y9 : Int32, y9 = (z.1 + (1 : Int32)) := ⟨_, rfl⟩
      have hf := hf.trans (g_let_eq hz5)
      have hok := g_let_p hz5 hok
      refine x_iinc (v := z5) (lv' := [(0, .ref (q 0)), (1, .int x1), (2, .int z5)]) C dX3_mixesBlock_19 2 rfl hz5.symm (by decide) [1, 2, 0] rfl ?_
      refine x_goto (tgt := 2) C dX3_mixesBlock_22 (by decide) ?_
      exact ih ((z5, z4)) (rOk_t hnx hf) (fun z' hz => K0 z' ((run_t hf).trans hz))
noncomputable def L_r_mixesBlock_27 (m : gM) (x1 : Int32) (z : Int32 × gN) : Bool × (Int32 × gN) := (if (8 : Int32) ≤ z.1 then (false, (z.1, z.2)) else g_let (f_r_mixes m z.2 ((m 1 (((8 : Int32) * x1) + z.1).toNatClampNeg).toInt64)) (fun z4 : gN => g_let ((z.1 + (1 : Int32))) (fun z5 : Int32 => (true, (z5, z4)))))
noncomputable def K_r_mixesBlock_27 (m : gM) (x1 : Int32) (z : Int32 × gN) : Prop := (if (8 : Int32) ≤ z.1 then True else (vp_in (((8 : Int32) * x1) + z.1) 364) ∧ ((o_r_mixes m z.2 ((m 1 (((8 : Int32) * x1) + z.1).toNatClampNeg).toInt64)) ∧ (g_let (f_r_mixes m z.2 ((m 1 (((8 : Int32) * x1) + z.1).toNatClampNeg).toInt64)) (fun z4 : gN => g_let ((z.1 + (1 : Int32))) (fun z5 : Int32 => True)))))
set_option maxRecDepth 100000 in
set_option maxHeartbeats 4000000 in
theorem lp_r_mixesBlock_27 {p : Program} {l : Launch} {e : Env} {s : State} {m9 : MethodId} {args : Array Value} {below : List Frame} {meth : Method} {c : Code} {G : gG} {A : Nat → Prop} {Q : State → Prop} {q : Nat → Nat} (C : xC p s m9 args meth c G A 3 cX3_mixesBlock RX3 wsX3_mixesBlock) (hq : gD A q shM.length) (m : gM) (x1 : Int32) : ∀ (n : Nat) (z : Int32 × gN), rOk (L_r_mixesBlock_27 m x1) (K_r_mixesBlock_27 m x1) n z → (∀ z' : Int32 × gN, run (L_r_mixesBlock_27 m x1) n z = z' → xJ p l e rm_r_mixesBlock s m9 args below meth c G A 3 Q 0 0 shM q m z'.2 [(0, .ref (q 0)), (1, .int x1), (2, .int z'.1)] [] 55) → xJ p l e rm_r_mixesBlock s m9 args below meth c G A 3 Q 0 0 shM q m z.2 [(0, .ref (q 0)), (1, .int x1), (2, .int z.1)] [] 27 := by
  intro n
  induction n with
  | zero =>
    intro z hok _
    exact rOk_0 hok
  | succ n ih =>
    intro z hok K0
    have hnx := rOk_2 hok
    have hok := rOk_1 hok
    have hf := L_r_mixesBlock_27.eq_1 m x1 z
    have hok := Eq.mp (K_r_mixesBlock_27.eq_1 m x1 z) hok
    refine x_iload_n C dX3_mixesBlock_27 rfl 2 rfl ?_
    refine x_bipush (v := (8 : Int32)) C dX3_mixesBlock_28 (by decide) ?_
    refine x_icmp_ge (tgt := 55) C dX3_mixesBlock_30 (by decide) (fun c1 => ?_) (fun c1 => ?_)
    · have hf := hf.trans (if_pos c1)
      have hok := g_ip c1 hok
      exact K0 ((z.1, z.2)) (run_f hf)
    · have hf := hf.trans (if_neg c1)
      have hok := g_in c1 hok
      refine x_aload_n C dX3_mixesBlock_33 rfl 0 rfl ?_
      refine x_aload_n C dX3_mixesBlock_34 rfl 0 rfl ?_
      refine x_get (v := .ref (q 1)) C in_X3_mixesBlock_3 0 rfl rfl 0 (by decide) k_X3_mixesBlock_7 rfl rfl dX3_mixesBlock_35 ?_
      refine x_bipush (v := (8 : Int32)) C dX3_mixesBlock_38 (by decide) ?_
      refine x_iload_n C dX3_mixesBlock_40 rfl 1 rfl ?_
      refine x_imul C dX3_mixesBlock_41 ?_
      refine x_iload_n C dX3_mixesBlock_42 rfl 2 rfl ?_
      refine x_iadd C dX3_mixesBlock_43 ?_
      have s2 := And.left hok
      have hok := And.right hok
      refine x_iald (n := 364) (v := (m 1 (((8 : Int32) * x1) + z.1).toNatClampNeg)) C 1 rfl s2 rfl dX3_mixesBlock_44 ?_
      refine x_i2l C dX3_mixesBlock_45 rfl ?_
      have s3 := And.left hok
      have hok := And.right hok
      obtain ⟨z4, hz4⟩ : ∃ y9 : gN, y9 = f_r_mixes m z.2 ((m 1 (((8 : Int32) * x1) + z.1).toNatClampNeg).toInt64) := ⟨_, rfl⟩
      have hf := hf.trans (g_let_eq hz4)
      have hok := g_let_p hz4 hok
      have hmz4 : gMv l yX3_mixes wsX3_mixes rm_r_mixes G shM q m z.2 [.ref (q 0), .long ((m 1 (((8 : Int32) * x1) + z.1).toNatClampNeg).toInt64)] m z4 := by rw [hz4]; exact c_r_mixes l G q m z.2 ((m 1 (((8 : Int32) * x1) + z.1).toNatClampNeg).toInt64) s3
      refine x_callVv (n := 1) C hq gFr_same (hmz4) (cwV 1 C.2.2.2.2.2.1 gX3_mixesBlock_X3_mixes rfl rfl rfl (by decide +kernel) ⟨Nat.le_of_ble_eq_true rfl, Nat.le_of_ble_eq_true rfl⟩) rfl rfl rfl rfl (Nat.le_of_ble_eq_true rfl) dX3_mixesBlock_46 (Nat.zero_le _) (Nat.zero_le _) ?_
      obtain ⟨z5, hz5⟩ : ∃ y9 : Int32, y9 = (z.1 + (1 : Int32)) := ⟨_, rfl⟩
      have hf := hf.trans (g_let_eq hz5)
      have hok := g_let_p hz5 hok
      refine x_iinc (v := z5) (lv' := [(0, .ref (q 0)), (1, .int x1), (2, .int z5)]) C dX3_mixesBlock_49 2 rfl hz5.symm (by decide) [1, 2, 0] rfl ?_
      refine x_goto (tgt := 27) C dX3_mixesBlock_52 (by decide) ?_
      exact ih ((z5, z4)) (rOk_t hnx hf) (fun z' hz => K0 z' ((run_t hf).trans hz))
noncomputable def f_r_mixesBlock (m : gM) (h : gN) (a1 : Int32) : gN := g_let (run (L_r_mixesBlock_2 m a1) 400 (((0 : Int32), h))) (fun z2 : Int32 × gN => g_let (run (L_r_mixesBlock_27 m a1) 400 (((0 : Int32), z2.2))) (fun z4 : Int32 × gN => z4.2))
noncomputable def o_r_mixesBlock (m : gM) (h : gN) (a1 : Int32) : Prop := (rOk (L_r_mixesBlock_2 m a1) (K_r_mixesBlock_2 m a1) 400 (((0 : Int32), h))) ∧ (g_let (run (L_r_mixesBlock_2 m a1) 400 (((0 : Int32), h))) (fun z2 : Int32 × gN => (rOk (L_r_mixesBlock_27 m a1) (K_r_mixesBlock_27 m a1) 400 (((0 : Int32), z2.2))) ∧ (g_let (run (L_r_mixesBlock_27 m a1) 400 (((0 : Int32), z2.2))) (fun z4 : Int32 × gN => True))))
set_option maxRecDepth 100000 in
set_option maxHeartbeats 4000000 in
theorem c_r_mixesBlock (l : Launch) (G : gG) (q : Nat → Nat) (m : gM) (h : gN) (a1 : Int32) (hok : o_r_mixesBlock m h a1) : gMv l yX3_mixesBlock wsX3_mixesBlock rm_r_mixesBlock G shM q m h [.ref (q 0), .int a1] m (f_r_mixesBlock m h a1) := by
  intro sz
  refine g_met (cc := cX3_mixesBlock) (maxL := 3) (ret := none) (own := RX3) (Qc := fun sz => gQv G shM q m (f_r_mixesBlock m h a1) sz) (by decide) rfl rfl (Nat.le_of_ble_eq_true rfl) (fun p e s m9 below meth c C hq hr => ?_)
  refine x_lv (lv' := [(0, .ref (q 0)), (1, .int a1)]) [0, 1] rfl ?_
  have hf := f_r_mixesBlock.eq_1 m h a1
  have hok := Eq.mp (o_r_mixesBlock.eq_1 m h a1) hok
  refine x_iconst (v := (0 : Int32)) C dX3_mixesBlock_0 (by decide) ?_
  refine x_istore_n (lv' := [(0, .ref (q 0)), (1, .int a1), (2, .int (0 : Int32))]) C dX3_mixesBlock_1 rfl (by decide) [1, 2, 0] rfl ?_
  have s1 := And.left hok
  have hok := And.right hok
  refine lp_r_mixesBlock_2 C hq m a1 400 (((0 : Int32), h)) s1 (fun z2 hz2 => ?_)
  have hf := hf.trans (g_let_eq hz2.symm)
  have hok := g_let_p hz2.symm hok
  refine x_iconst (v := (0 : Int32)) C dX3_mixesBlock_25 (by decide) ?_
  refine x_istore_n (lv' := [(0, .ref (q 0)), (1, .int a1), (2, .int (0 : Int32))]) C dX3_mixesBlock_26 rfl (by decide) [1, 2, 0] rfl ?_
  have s3 := And.left hok
  have hok := And.right hok
  refine lp_r_mixesBlock_27 C hq m a1 400 (((0 : Int32), z2.2)) s3 (fun z4 hz4 => ?_)
  have hf := hf.trans (g_let_eq hz4.symm)
  have hok := g_let_p hz4.symm hok
  exact g_vret C hr dX3_mixesBlock_55 rfl hf.symm
set_option maxRecDepth 20000 in
theorem in_X3_digest_3 : ∀ w ∈ u_ws RX3 TX3 12, w ∈ wsX3_digest := by decide +kernel
set_option maxRecDepth 20000 in
theorem kc_X3_digest_187 : Cond.constantLong RX3 187 (2731) ∈ wsX3_digest := by decide +kernel
set_option maxRecDepth 20000 in
theorem k_X3_digest_179 : Cond.fieldLink RX3 179 "HintedPagesModel" "hash" "J" ∈ wsX3_digest := by decide +kernel
set_option maxRecDepth 20000 in
theorem k_X3_digest_19 : Cond.fieldLink RX3 19 "HintedPagesModel" "text" "[I" ∈ wsX3_digest := by decide +kernel
set_option maxRecDepth 20000 in
theorem k_X3_digest_25 : Cond.fieldLink RX3 25 "HintedPagesModel" "thrown" "I" ∈ wsX3_digest := by decide +kernel
set_option maxRecDepth 20000 in
theorem k_X3_digest_7 : Cond.fieldLink RX3 7 "HintedPagesModel" "now" "[I" ∈ wsX3_digest := by decide +kernel
set_option maxRecDepth 20000 in
theorem k_X3_digest_98 : Cond.fieldLink RX3 98 "HintedPagesModel" "typed" "I" ∈ wsX3_digest := by decide +kernel
abbrev rm_r_digest : Room := { frames := 8, cells := 0, slots := 0, locals := 189 }
noncomputable def L_r_digest_14 (m : gM) (z : Int32 × gN) : Bool × (Int32 × gN) := (if (12 : Int32) ≤ z.1 then (false, (z.1, z.2)) else g_let (f_r_mixes m z.2 ((f_r_counted m z.1).toInt64)) (fun z4 : gN => g_let ((z.1 + (1 : Int32))) (fun z5 : Int32 => (true, (z5, z4)))))
noncomputable def K_r_digest_14 (m : gM) (z : Int32 × gN) : Prop := (if (12 : Int32) ≤ z.1 then True else (o_r_counted m z.1) ∧ ((o_r_mixes m z.2 ((f_r_counted m z.1).toInt64)) ∧ (g_let (f_r_mixes m z.2 ((f_r_counted m z.1).toInt64)) (fun z4 : gN => g_let ((z.1 + (1 : Int32))) (fun z5 : Int32 => True)))))
set_option maxRecDepth 100000 in
set_option maxHeartbeats 4000000 in
theorem lp_r_digest_14 {p : Program} {l : Launch} {e : Env} {s : State} {m9 : MethodId} {args : Array Value} {below : List Frame} {meth : Method} {c : Code} {G : gG} {A : Nat → Prop} {Q : State → Prop} {q : Nat → Nat} (C : xC p s m9 args meth c G A 2 cX3_digest RX3 wsX3_digest) (hq : gD A q shM.length) (m : gM) : ∀ (n : Nat) (z : Int32 × gN), rOk (L_r_digest_14 m) (K_r_digest_14 m) n z → (∀ z' : Int32 × gN, run (L_r_digest_14 m) n z = z' → xJ p l e rm_r_digest s m9 args below meth c G A 2 Q 0 0 shM q m z'.2 [(0, .ref (q 0)), (1, .int z'.1)] [] 36) → xJ p l e rm_r_digest s m9 args below meth c G A 2 Q 0 0 shM q m z.2 [(0, .ref (q 0)), (1, .int z.1)] [] 14 := by
  intro n
  induction n with
  | zero =>
    intro z hok _
    exact rOk_0 hok
  | succ n ih =>
    intro z hok K0
    have hnx := rOk_2 hok
    have hok := rOk_1 hok
    have hf := L_r_digest_14.eq_1 m z
    have hok := Eq.mp (K_r_digest_14.eq_1 m z) hok
    refine x_iload_n C dX3_digest_14 rfl 1 rfl ?_
    refine x_bipush (v := (12 : Int32)) C dX3_digest_15 (by decide) ?_
    refine x_icmp_ge (tgt := 36) C dX3_digest_17 (by decide) (fun c1 => ?_) (fun c1 => ?_)
    · have hf := hf.trans (if_pos c1)
      have hok := g_ip c1 hok
      exact K0 ((z.1, z.2)) (run_f hf)
    · have hf := hf.trans (if_neg c1)
      have hok := g_in c1 hok
      refine x_aload_n C dX3_digest_20 rfl 0 rfl ?_
      refine x_aload_n C dX3_digest_21 rfl 0 rfl ?_
      refine x_iload_n C dX3_digest_22 rfl 1 rfl ?_
      have s2 := And.left hok
      have hok := And.right hok
      refine x_callVi (n := 1) C hq gFr_same (c_r_counted l G q m z.2 z.1 s2) (cwV 1 C.2.2.2.2.2.1 gX3_digest_X3_counted rfl rfl rfl (by decide +kernel) ⟨Nat.le_of_ble_eq_true rfl, Nat.le_of_ble_eq_true rfl⟩) rfl rfl rfl rfl (Nat.le_of_ble_eq_true rfl) dX3_digest_23 (Nat.zero_le _) (Nat.zero_le _) ?_
      refine x_i2l C dX3_digest_26 rfl ?_
      have s3 := And.left hok
      have hok := And.right hok
      obtain ⟨z4, hz4⟩ : ∃ y9 : gN, y9 = f_r_mixes m z.2 ((f_r_counted m z.1).toInt64) := ⟨_, rfl⟩
      have hf := hf.trans (g_let_eq hz4)
      have hok := g_let_p hz4 hok
      have hmz4 : gMv l yX3_mixes wsX3_mixes rm_r_mixes G shM q m z.2 [.ref (q 0), .long ((f_r_counted m z.1).toInt64)] m z4 := by rw [hz4]; exact c_r_mixes l G q m z.2 ((f_r_counted m z.1).toInt64) s3
      refine x_callVv (n := 1) C hq gFr_same (hmz4) (cwV 1 C.2.2.2.2.2.1 gX3_digest_X3_mixes rfl rfl rfl (by decide +kernel) ⟨Nat.le_of_ble_eq_true rfl, Nat.le_of_ble_eq_true rfl⟩) rfl rfl rfl rfl (Nat.le_of_ble_eq_true rfl) dX3_digest_27 (Nat.zero_le _) (Nat.zero_le _) ?_
      obtain ⟨z5, hz5⟩ : ∃ y9 : Int32, y9 = (z.1 + (1 : Int32)) := ⟨_, rfl⟩
      have hf := hf.trans (g_let_eq hz5)
      have hok := g_let_p hz5 hok
      refine x_iinc (v := z5) (lv' := [(0, .ref (q 0)), (1, .int z5)]) C dX3_digest_30 1 rfl hz5.symm (by decide) [1, 0] rfl ?_
      refine x_goto (tgt := 14) C dX3_digest_33 (by decide) ?_
      exact ih ((z5, z4)) (rOk_t hnx hf) (fun z' hz => K0 z' ((run_t hf).trans hz))
noncomputable def L_r_digest_64 (m : gM) (z : Int32 × gN) : Bool × (Int32 × gN) := (if (240 : Int32) ≤ z.1 then (false, (z.1, z.2)) else g_let (f_r_mixes m z.2 ((f_r_ofPage m (z.1 / (6 : Int32)) (z.1 - z.1 / (6 : Int32) * (6 : Int32))).toInt64)) (fun z4 : gN => g_let ((z.1 + (1 : Int32))) (fun z5 : Int32 => (true, (z5, z4)))))
noncomputable def K_r_digest_64 (m : gM) (z : Int32 × gN) : Prop := (if (240 : Int32) ≤ z.1 then True else (o_r_ofPage m (z.1 / (6 : Int32)) (z.1 - z.1 / (6 : Int32) * (6 : Int32))) ∧ ((o_r_mixes m z.2 ((f_r_ofPage m (z.1 / (6 : Int32)) (z.1 - z.1 / (6 : Int32) * (6 : Int32))).toInt64)) ∧ (g_let (f_r_mixes m z.2 ((f_r_ofPage m (z.1 / (6 : Int32)) (z.1 - z.1 / (6 : Int32) * (6 : Int32))).toInt64)) (fun z4 : gN => g_let ((z.1 + (1 : Int32))) (fun z5 : Int32 => True)))))
set_option maxRecDepth 100000 in
set_option maxHeartbeats 4000000 in
theorem lp_r_digest_64 {p : Program} {l : Launch} {e : Env} {s : State} {m9 : MethodId} {args : Array Value} {below : List Frame} {meth : Method} {c : Code} {G : gG} {A : Nat → Prop} {Q : State → Prop} {q : Nat → Nat} (C : xC p s m9 args meth c G A 2 cX3_digest RX3 wsX3_digest) (hq : gD A q shM.length) (m : gM) : ∀ (n : Nat) (z : Int32 × gN), rOk (L_r_digest_64 m) (K_r_digest_64 m) n z → (∀ z' : Int32 × gN, run (L_r_digest_64 m) n z = z' → xJ p l e rm_r_digest s m9 args below meth c G A 2 Q 0 0 shM q m z'.2 [(0, .ref (q 0)), (1, .int z'.1)] [] 94) → xJ p l e rm_r_digest s m9 args below meth c G A 2 Q 0 0 shM q m z.2 [(0, .ref (q 0)), (1, .int z.1)] [] 64 := by
  intro n
  induction n with
  | zero =>
    intro z hok _
    exact rOk_0 hok
  | succ n ih =>
    intro z hok K0
    have hnx := rOk_2 hok
    have hok := rOk_1 hok
    have hf := L_r_digest_64.eq_1 m z
    have hok := Eq.mp (K_r_digest_64.eq_1 m z) hok
    refine x_iload_n C dX3_digest_64 rfl 1 rfl ?_
    refine x_sipush (v := (240 : Int32)) C dX3_digest_65 (by decide) ?_
    refine x_icmp_ge (tgt := 94) C dX3_digest_68 (by decide) (fun c1 => ?_) (fun c1 => ?_)
    · have hf := hf.trans (if_pos c1)
      have hok := g_ip c1 hok
      exact K0 ((z.1, z.2)) (run_f hf)
    · have hf := hf.trans (if_neg c1)
      have hok := g_in c1 hok
      refine x_aload_n C dX3_digest_71 rfl 0 rfl ?_
      refine x_aload_n C dX3_digest_72 rfl 0 rfl ?_
      refine x_iload_n C dX3_digest_73 rfl 1 rfl ?_
      refine x_bipush (v := (6 : Int32)) C dX3_digest_74 (by decide) ?_
      refine x_idiv C dX3_digest_76 (by decide) ?_
      refine x_iload_n C dX3_digest_77 rfl 1 rfl ?_
      refine x_bipush (v := (6 : Int32)) C dX3_digest_78 (by decide) ?_
      refine x_irem C dX3_digest_80 (by decide) ?_
      have s2 := And.left hok
      have hok := And.right hok
      refine x_callVi (n := 2) C hq gFr_same (c_r_ofPage l G q m z.2 (z.1 / (6 : Int32)) (z.1 - z.1 / (6 : Int32) * (6 : Int32)) s2) (cwV 2 C.2.2.2.2.2.1 gX3_digest_X3_ofPage rfl rfl rfl (by decide +kernel) ⟨Nat.le_of_ble_eq_true rfl, Nat.le_of_ble_eq_true rfl⟩) rfl rfl rfl rfl (Nat.le_of_ble_eq_true rfl) dX3_digest_81 (Nat.zero_le _) (Nat.zero_le _) ?_
      refine x_i2l C dX3_digest_84 rfl ?_
      have s3 := And.left hok
      have hok := And.right hok
      obtain ⟨z4, hz4⟩ : ∃ y9 : gN, y9 = f_r_mixes m z.2 ((f_r_ofPage m (z.1 / (6 : Int32)) (z.1 - z.1 / (6 : Int32) * (6 : Int32))).toInt64) := ⟨_, rfl⟩
      have hf := hf.trans (g_let_eq hz4)
      have hok := g_let_p hz4 hok
      have hmz4 : gMv l yX3_mixes wsX3_mixes rm_r_mixes G shM q m z.2 [.ref (q 0), .long ((f_r_ofPage m (z.1 / (6 : Int32)) (z.1 - z.1 / (6 : Int32) * (6 : Int32))).toInt64)] m z4 := by rw [hz4]; exact c_r_mixes l G q m z.2 ((f_r_ofPage m (z.1 / (6 : Int32)) (z.1 - z.1 / (6 : Int32) * (6 : Int32))).toInt64) s3
      refine x_callVv (n := 1) C hq gFr_same (hmz4) (cwV 1 C.2.2.2.2.2.1 gX3_digest_X3_mixes rfl rfl rfl (by decide +kernel) ⟨Nat.le_of_ble_eq_true rfl, Nat.le_of_ble_eq_true rfl⟩) rfl rfl rfl rfl (Nat.le_of_ble_eq_true rfl) dX3_digest_85 (Nat.zero_le _) (Nat.zero_le _) ?_
      obtain ⟨z5, hz5⟩ : ∃ y9 : Int32, y9 = (z.1 + (1 : Int32)) := ⟨_, rfl⟩
      have hf := hf.trans (g_let_eq hz5)
      have hok := g_let_p hz5 hok
      refine x_iinc (v := z5) (lv' := [(0, .ref (q 0)), (1, .int z5)]) C dX3_digest_88 1 rfl hz5.symm (by decide) [1, 0] rfl ?_
      refine x_goto (tgt := 64) C dX3_digest_91 (by decide) ?_
      exact ih ((z5, z4)) (rOk_t hnx hf) (fun z' hz => K0 z' ((run_t hf).trans hz))
noncomputable def L_r_digest_96 (m : gM) (z : Int32 × gN) : Bool × (Int32 × gN) := (if (12 : Int32) ≤ z.1 then (false, (z.1, z.2)) else g_let (f_r_mixesBlock m z.2 z.1) (fun z3 : gN => g_let ((z.1 + (1 : Int32))) (fun z4 : Int32 => (true, (z4, z3)))))
noncomputable def K_r_digest_96 (m : gM) (z : Int32 × gN) : Prop := (if (12 : Int32) ≤ z.1 then True else (o_r_mixesBlock m z.2 z.1) ∧ (g_let (f_r_mixesBlock m z.2 z.1) (fun z3 : gN => g_let ((z.1 + (1 : Int32))) (fun z4 : Int32 => True))))
set_option maxRecDepth 100000 in
set_option maxHeartbeats 4000000 in
theorem lp_r_digest_96 {p : Program} {l : Launch} {e : Env} {s : State} {m9 : MethodId} {args : Array Value} {below : List Frame} {meth : Method} {c : Code} {G : gG} {A : Nat → Prop} {Q : State → Prop} {q : Nat → Nat} (C : xC p s m9 args meth c G A 2 cX3_digest RX3 wsX3_digest) (hq : gD A q shM.length) (m : gM) : ∀ (n : Nat) (z : Int32 × gN), rOk (L_r_digest_96 m) (K_r_digest_96 m) n z → (∀ z' : Int32 × gN, run (L_r_digest_96 m) n z = z' → xJ p l e rm_r_digest s m9 args below meth c G A 2 Q 0 0 shM q m z'.2 [(0, .ref (q 0)), (1, .int z'.1)] [] 113) → xJ p l e rm_r_digest s m9 args below meth c G A 2 Q 0 0 shM q m z.2 [(0, .ref (q 0)), (1, .int z.1)] [] 96 := by
  intro n
  induction n with
  | zero =>
    intro z hok _
    exact rOk_0 hok
  | succ n ih =>
    intro z hok K0
    have hnx := rOk_2 hok
    have hok := rOk_1 hok
    have hf := L_r_digest_96.eq_1 m z
    have hok := Eq.mp (K_r_digest_96.eq_1 m z) hok
    refine x_iload_n C dX3_digest_96 rfl 1 rfl ?_
    refine x_bipush (v := (12 : Int32)) C dX3_digest_97 (by decide) ?_
    refine x_icmp_ge (tgt := 113) C dX3_digest_99 (by decide) (fun c1 => ?_) (fun c1 => ?_)
    · have hf := hf.trans (if_pos c1)
      have hok := g_ip c1 hok
      exact K0 ((z.1, z.2)) (run_f hf)
    · have hf := hf.trans (if_neg c1)
      have hok := g_in c1 hok
      refine x_aload_n C dX3_digest_102 rfl 0 rfl ?_
      refine x_iload_n C dX3_digest_103 rfl 1 rfl ?_
      have s2 := And.left hok
      have hok := And.right hok
      obtain ⟨z3, hz3⟩ : ∃ y9 : gN, y9 = f_r_mixesBlock m z.2 z.1 := ⟨_, rfl⟩
      have hf := hf.trans (g_let_eq hz3)
      have hok := g_let_p hz3 hok
      have hmz3 : gMv l yX3_mixesBlock wsX3_mixesBlock rm_r_mixesBlock G shM q m z.2 [.ref (q 0), .int z.1] m z3 := by rw [hz3]; exact c_r_mixesBlock l G q m z.2 z.1 s2
      refine x_callVv (n := 1) C hq gFr_same (hmz3) (cwV 1 C.2.2.2.2.2.1 gX3_digest_X3_mixesBlock rfl rfl rfl (by decide +kernel) ⟨Nat.le_of_ble_eq_true rfl, Nat.le_of_ble_eq_true rfl⟩) rfl rfl rfl rfl (Nat.le_of_ble_eq_true rfl) dX3_digest_104 (Nat.zero_le _) (Nat.zero_le _) ?_
      obtain ⟨z4, hz4⟩ : ∃ y9 : Int32, y9 = (z.1 + (1 : Int32)) := ⟨_, rfl⟩
      have hf := hf.trans (g_let_eq hz4)
      have hok := g_let_p hz4 hok
      refine x_iinc (v := z4) (lv' := [(0, .ref (q 0)), (1, .int z4)]) C dX3_digest_107 1 rfl hz4.symm (by decide) [1, 0] rfl ?_
      refine x_goto (tgt := 96) C dX3_digest_110 (by decide) ?_
      exact ih ((z4, z3)) (rOk_t hnx hf) (fun z' hz => K0 z' ((run_t hf).trans hz))
noncomputable def L_r_digest_115 (m : gM) (z : Int32 × gN) : Bool × (Int32 × gN) := (if (25 : Int32) ≤ z.1 then (false, (z.1, z.2)) else g_let (f_r_mixes m z.2 ((f_r_ofStream m (z.1 / (5 : Int32)) (z.1 - z.1 / (5 : Int32) * (5 : Int32))).toInt64)) (fun z4 : gN => g_let ((z.1 + (1 : Int32))) (fun z5 : Int32 => (true, (z5, z4)))))
noncomputable def K_r_digest_115 (m : gM) (z : Int32 × gN) : Prop := (if (25 : Int32) ≤ z.1 then True else (o_r_ofStream m (z.1 / (5 : Int32)) (z.1 - z.1 / (5 : Int32) * (5 : Int32))) ∧ ((o_r_mixes m z.2 ((f_r_ofStream m (z.1 / (5 : Int32)) (z.1 - z.1 / (5 : Int32) * (5 : Int32))).toInt64)) ∧ (g_let (f_r_mixes m z.2 ((f_r_ofStream m (z.1 / (5 : Int32)) (z.1 - z.1 / (5 : Int32) * (5 : Int32))).toInt64)) (fun z4 : gN => g_let ((z.1 + (1 : Int32))) (fun z5 : Int32 => True)))))
set_option maxRecDepth 100000 in
set_option maxHeartbeats 4000000 in
theorem lp_r_digest_115 {p : Program} {l : Launch} {e : Env} {s : State} {m9 : MethodId} {args : Array Value} {below : List Frame} {meth : Method} {c : Code} {G : gG} {A : Nat → Prop} {Q : State → Prop} {q : Nat → Nat} (C : xC p s m9 args meth c G A 2 cX3_digest RX3 wsX3_digest) (hq : gD A q shM.length) (m : gM) : ∀ (n : Nat) (z : Int32 × gN), rOk (L_r_digest_115 m) (K_r_digest_115 m) n z → (∀ z' : Int32 × gN, run (L_r_digest_115 m) n z = z' → xJ p l e rm_r_digest s m9 args below meth c G A 2 Q 0 0 shM q m z'.2 [(0, .ref (q 0)), (1, .int z'.1)] [] 142) → xJ p l e rm_r_digest s m9 args below meth c G A 2 Q 0 0 shM q m z.2 [(0, .ref (q 0)), (1, .int z.1)] [] 115 := by
  intro n
  induction n with
  | zero =>
    intro z hok _
    exact rOk_0 hok
  | succ n ih =>
    intro z hok K0
    have hnx := rOk_2 hok
    have hok := rOk_1 hok
    have hf := L_r_digest_115.eq_1 m z
    have hok := Eq.mp (K_r_digest_115.eq_1 m z) hok
    refine x_iload_n C dX3_digest_115 rfl 1 rfl ?_
    refine x_bipush (v := (25 : Int32)) C dX3_digest_116 (by decide) ?_
    refine x_icmp_ge (tgt := 142) C dX3_digest_118 (by decide) (fun c1 => ?_) (fun c1 => ?_)
    · have hf := hf.trans (if_pos c1)
      have hok := g_ip c1 hok
      exact K0 ((z.1, z.2)) (run_f hf)
    · have hf := hf.trans (if_neg c1)
      have hok := g_in c1 hok
      refine x_aload_n C dX3_digest_121 rfl 0 rfl ?_
      refine x_aload_n C dX3_digest_122 rfl 0 rfl ?_
      refine x_iload_n C dX3_digest_123 rfl 1 rfl ?_
      refine x_iconst (v := (5 : Int32)) C dX3_digest_124 (by decide) ?_
      refine x_idiv C dX3_digest_125 (by decide) ?_
      refine x_iload_n C dX3_digest_126 rfl 1 rfl ?_
      refine x_iconst (v := (5 : Int32)) C dX3_digest_127 (by decide) ?_
      refine x_irem C dX3_digest_128 (by decide) ?_
      have s2 := And.left hok
      have hok := And.right hok
      refine x_callVi (n := 2) C hq gFr_same (c_r_ofStream l G q m z.2 (z.1 / (5 : Int32)) (z.1 - z.1 / (5 : Int32) * (5 : Int32)) s2) (cwV 2 C.2.2.2.2.2.1 gX3_digest_X3_ofStream rfl rfl rfl (by decide +kernel) ⟨Nat.le_of_ble_eq_true rfl, Nat.le_of_ble_eq_true rfl⟩) rfl rfl rfl rfl (Nat.le_of_ble_eq_true rfl) dX3_digest_129 (Nat.zero_le _) (Nat.zero_le _) ?_
      refine x_i2l C dX3_digest_132 rfl ?_
      have s3 := And.left hok
      have hok := And.right hok
      obtain ⟨z4, hz4⟩ : ∃ y9 : gN, y9 = f_r_mixes m z.2 ((f_r_ofStream m (z.1 / (5 : Int32)) (z.1 - z.1 / (5 : Int32) * (5 : Int32))).toInt64) := ⟨_, rfl⟩
      have hf := hf.trans (g_let_eq hz4)
      have hok := g_let_p hz4 hok
      have hmz4 : gMv l yX3_mixes wsX3_mixes rm_r_mixes G shM q m z.2 [.ref (q 0), .long ((f_r_ofStream m (z.1 / (5 : Int32)) (z.1 - z.1 / (5 : Int32) * (5 : Int32))).toInt64)] m z4 := by rw [hz4]; exact c_r_mixes l G q m z.2 ((f_r_ofStream m (z.1 / (5 : Int32)) (z.1 - z.1 / (5 : Int32) * (5 : Int32))).toInt64) s3
      refine x_callVv (n := 1) C hq gFr_same (hmz4) (cwV 1 C.2.2.2.2.2.1 gX3_digest_X3_mixes rfl rfl rfl (by decide +kernel) ⟨Nat.le_of_ble_eq_true rfl, Nat.le_of_ble_eq_true rfl⟩) rfl rfl rfl rfl (Nat.le_of_ble_eq_true rfl) dX3_digest_133 (Nat.zero_le _) (Nat.zero_le _) ?_
      obtain ⟨z5, hz5⟩ : ∃ y9 : Int32, y9 = (z.1 + (1 : Int32)) := ⟨_, rfl⟩
      have hf := hf.trans (g_let_eq hz5)
      have hok := g_let_p hz5 hok
      refine x_iinc (v := z5) (lv' := [(0, .ref (q 0)), (1, .int z5)]) C dX3_digest_136 1 rfl hz5.symm (by decide) [1, 0] rfl ?_
      refine x_goto (tgt := 115) C dX3_digest_139 (by decide) ?_
      exact ih ((z5, z4)) (rOk_t hnx hf) (fun z' hz => K0 z' ((run_t hf).trans hz))
noncomputable def L_r_digest_144  (z : Int32 × gM × gN) : Bool × (Int32 × gM × gN) := (if (12 : Int32) ≤ z.1 then (false, (z.1, z.2.1, z.2.2)) else g_let (f_r_written z.2.1 (0 : Int32) (z.1 / (3 : Int32)) (z.1 - z.1 / (3 : Int32) * (3 : Int32))) (fun z3 : Int32 × gM => g_let (f_r_mixes z3.2 z.2.2 ((z3.1).toInt64)) (fun z5 : gN => g_let ((z.1 + (1 : Int32))) (fun z6 : Int32 => (true, (z6, z3.2, z5))))))
noncomputable def K_r_digest_144  (z : Int32 × gM × gN) : Prop := (if (12 : Int32) ≤ z.1 then True else (o_r_written z.2.1 (0 : Int32) (z.1 / (3 : Int32)) (z.1 - z.1 / (3 : Int32) * (3 : Int32))) ∧ (g_let (f_r_written z.2.1 (0 : Int32) (z.1 / (3 : Int32)) (z.1 - z.1 / (3 : Int32) * (3 : Int32))) (fun z3 : Int32 × gM => (o_r_mixes z3.2 z.2.2 ((z3.1).toInt64)) ∧ (g_let (f_r_mixes z3.2 z.2.2 ((z3.1).toInt64)) (fun z5 : gN => g_let ((z.1 + (1 : Int32))) (fun z6 : Int32 => True))))))
set_option maxRecDepth 100000 in
set_option maxHeartbeats 4000000 in
theorem lp_r_digest_144 {p : Program} {l : Launch} {e : Env} {s : State} {m9 : MethodId} {args : Array Value} {below : List Frame} {meth : Method} {c : Code} {G : gG} {A : Nat → Prop} {Q : State → Prop} {q : Nat → Nat} (C : xC p s m9 args meth c G A 2 cX3_digest RX3 wsX3_digest) (hq : gD A q shM.length)  : ∀ (n : Nat) (z : Int32 × gM × gN), rOk L_r_digest_144 K_r_digest_144 n z → (∀ z' : Int32 × gM × gN, run L_r_digest_144 n z = z' → xJ p l e rm_r_digest s m9 args below meth c G A 2 Q 0 0 shM q z'.2.1 z'.2.2 [(0, .ref (q 0)), (1, .int z'.1)] [] 172) → xJ p l e rm_r_digest s m9 args below meth c G A 2 Q 0 0 shM q z.2.1 z.2.2 [(0, .ref (q 0)), (1, .int z.1)] [] 144 := by
  intro n
  induction n with
  | zero =>
    intro z hok _
    exact rOk_0 hok
  | succ n ih =>
    intro z hok K0
    have hnx := rOk_2 hok
    have hok := rOk_1 hok
    have hf := L_r_digest_144.eq_1 z
    have hok := Eq.mp (K_r_digest_144.eq_1 z) hok
    refine x_iload_n C dX3_digest_144 rfl 1 rfl ?_
    refine x_bipush (v := (12 : Int32)) C dX3_digest_145 (by decide) ?_
    refine x_icmp_ge (tgt := 172) C dX3_digest_147 (by decide) (fun c1 => ?_) (fun c1 => ?_)
    · have hf := hf.trans (if_pos c1)
      have hok := g_ip c1 hok
      exact K0 ((z.1, z.2.1, z.2.2)) (run_f hf)
    · have hf := hf.trans (if_neg c1)
      have hok := g_in c1 hok
      refine x_aload_n C dX3_digest_150 rfl 0 rfl ?_
      refine x_aload_n C dX3_digest_151 rfl 0 rfl ?_
      refine x_iconst (v := (0 : Int32)) C dX3_digest_152 (by decide) ?_
      refine x_iload_n C dX3_digest_153 rfl 1 rfl ?_
      refine x_iconst (v := (3 : Int32)) C dX3_digest_154 (by decide) ?_
      refine x_idiv C dX3_digest_155 (by decide) ?_
      refine x_iload_n C dX3_digest_156 rfl 1 rfl ?_
      refine x_iconst (v := (3 : Int32)) C dX3_digest_157 (by decide) ?_
      refine x_irem C dX3_digest_158 (by decide) ?_
      have s2 := And.left hok
      have hok := And.right hok
      obtain ⟨z3, hz3⟩ : ∃ y9 : Int32 × gM, y9 = f_r_written z.2.1 (0 : Int32) (z.1 / (3 : Int32)) (z.1 - z.1 / (3 : Int32) * (3 : Int32)) := ⟨_, rfl⟩
      have hf := hf.trans (g_let_eq hz3)
      have hok := g_let_p hz3 hok
      have hmz3 : gMi l yX3_written wsX3_written rm_r_written G shM q z.2.1 z.2.2 [.ref (q 0), .int (0 : Int32), .int (z.1 / (3 : Int32)), .int (z.1 - z.1 / (3 : Int32) * (3 : Int32))] z3.2 z.2.2 z3.1 := by rw [hz3]; exact c_r_written l G q z.2.1 z.2.2 (0 : Int32) (z.1 / (3 : Int32)) (z.1 - z.1 / (3 : Int32) * (3 : Int32)) s2
      refine x_callVi (n := 3) C hq gFr_same (hmz3) (cwV 3 C.2.2.2.2.2.1 gX3_digest_X3_written rfl rfl rfl (by decide +kernel) ⟨Nat.le_of_ble_eq_true rfl, Nat.le_of_ble_eq_true rfl⟩) rfl rfl rfl rfl (Nat.le_of_ble_eq_true rfl) dX3_digest_159 (Nat.zero_le _) (Nat.zero_le _) ?_
      refine x_i2l C dX3_digest_162 rfl ?_
      have s4 := And.left hok
      have hok := And.right hok
      obtain ⟨z5, hz5⟩ : ∃ y9 : gN, y9 = f_r_mixes z3.2 z.2.2 ((z3.1).toInt64) := ⟨_, rfl⟩
      have hf := hf.trans (g_let_eq hz5)
      have hok := g_let_p hz5 hok
      have hmz5 : gMv l yX3_mixes wsX3_mixes rm_r_mixes G shM q z3.2 z.2.2 [.ref (q 0), .long ((z3.1).toInt64)] z3.2 z5 := by rw [hz5]; exact c_r_mixes l G q z3.2 z.2.2 ((z3.1).toInt64) s4
      refine x_callVv (n := 1) C hq gFr_same (hmz5) (cwV 1 C.2.2.2.2.2.1 gX3_digest_X3_mixes rfl rfl rfl (by decide +kernel) ⟨Nat.le_of_ble_eq_true rfl, Nat.le_of_ble_eq_true rfl⟩) rfl rfl rfl rfl (Nat.le_of_ble_eq_true rfl) dX3_digest_163 (Nat.zero_le _) (Nat.zero_le _) ?_
      obtain ⟨z6, hz6⟩ : ∃ y9 : Int32, y9 = (z.1 + (1 : Int32)) := ⟨_, rfl⟩
      have hf := hf.trans (g_let_eq hz6)
      have hok := g_let_p hz6 hok
      refine x_iinc (v := z6) (lv' := [(0, .ref (q 0)), (1, .int z6)]) C dX3_digest_166 1 rfl hz6.symm (by decide) [1, 0] rfl ?_
      refine x_goto (tgt := 144) C dX3_digest_169 (by decide) ?_
      exact ih ((z6, z3.2, z5)) (rOk_t hnx hf) (fun z' hz => K0 z' ((run_t hf).trans hz))
noncomputable def L_r_digest_222 (m : gM) (z : Int32 × gN) : Bool × (Int32 × gN) := (if (m 0 5) ≤ z.1 then (false, (z.1, z.2)) else g_let (f_r_mixes m z.2 ((m 4 z.1.toNatClampNeg).toInt64)) (fun z4 : gN => g_let ((z.1 + (1 : Int32))) (fun z5 : Int32 => (true, (z5, z4)))))
noncomputable def K_r_digest_222 (m : gM) (z : Int32 × gN) : Prop := (if (m 0 5) ≤ z.1 then True else (vp_in z.1 60) ∧ ((o_r_mixes m z.2 ((m 4 z.1.toNatClampNeg).toInt64)) ∧ (g_let (f_r_mixes m z.2 ((m 4 z.1.toNatClampNeg).toInt64)) (fun z4 : gN => g_let ((z.1 + (1 : Int32))) (fun z5 : Int32 => True)))))
set_option maxRecDepth 100000 in
set_option maxHeartbeats 4000000 in
theorem lp_r_digest_222 {p : Program} {l : Launch} {e : Env} {s : State} {m9 : MethodId} {args : Array Value} {below : List Frame} {meth : Method} {c : Code} {G : gG} {A : Nat → Prop} {Q : State → Prop} {q : Nat → Nat} (C : xC p s m9 args meth c G A 2 cX3_digest RX3 wsX3_digest) (hq : gD A q shM.length) (m : gM) : ∀ (n : Nat) (z : Int32 × gN), rOk (L_r_digest_222 m) (K_r_digest_222 m) n z → (∀ z' : Int32 × gN, run (L_r_digest_222 m) n z = z' → xJ p l e rm_r_digest s m9 args below meth c G A 2 Q 0 0 shM q m z'.2 [(0, .ref (q 0)), (1, .int z'.1)] [] 247) → xJ p l e rm_r_digest s m9 args below meth c G A 2 Q 0 0 shM q m z.2 [(0, .ref (q 0)), (1, .int z.1)] [] 222 := by
  intro n
  induction n with
  | zero =>
    intro z hok _
    exact rOk_0 hok
  | succ n ih =>
    intro z hok K0
    have hnx := rOk_2 hok
    have hok := rOk_1 hok
    have hf := L_r_digest_222.eq_1 m z
    have hok := Eq.mp (K_r_digest_222.eq_1 m z) hok
    refine x_iload_n C dX3_digest_222 rfl 1 rfl ?_
    refine x_aload_n C dX3_digest_223 rfl 0 rfl ?_
    refine x_get (v := .int (m 0 5)) C in_X3_digest_3 0 rfl rfl 5 (by decide) k_X3_digest_98 rfl rfl dX3_digest_224 ?_
    refine x_icmp_ge (tgt := 247) C dX3_digest_227 (by decide) (fun c1 => ?_) (fun c1 => ?_)
    · have hf := hf.trans (if_pos c1)
      have hok := g_ip c1 hok
      exact K0 ((z.1, z.2)) (run_f hf)
    · have hf := hf.trans (if_neg c1)
      have hok := g_in c1 hok
      refine x_aload_n C dX3_digest_230 rfl 0 rfl ?_
      refine x_aload_n C dX3_digest_231 rfl 0 rfl ?_
      refine x_get (v := .ref (q 4)) C in_X3_digest_3 0 rfl rfl 4 (by decide) k_X3_digest_19 rfl rfl dX3_digest_232 ?_
      refine x_iload_n C dX3_digest_235 rfl 1 rfl ?_
      have s2 := And.left hok
      have hok := And.right hok
      refine x_iald (n := 60) (v := (m 4 z.1.toNatClampNeg)) C 4 rfl s2 rfl dX3_digest_236 ?_
      refine x_i2l C dX3_digest_237 rfl ?_
      have s3 := And.left hok
      have hok := And.right hok
      obtain ⟨z4, hz4⟩ : ∃ y9 : gN, y9 = f_r_mixes m z.2 ((m 4 z.1.toNatClampNeg).toInt64) := ⟨_, rfl⟩
      have hf := hf.trans (g_let_eq hz4)
      have hok := g_let_p hz4 hok
      have hmz4 : gMv l yX3_mixes wsX3_mixes rm_r_mixes G shM q m z.2 [.ref (q 0), .long ((m 4 z.1.toNatClampNeg).toInt64)] m z4 := by rw [hz4]; exact c_r_mixes l G q m z.2 ((m 4 z.1.toNatClampNeg).toInt64) s3
      refine x_callVv (n := 1) C hq gFr_same (hmz4) (cwV 1 C.2.2.2.2.2.1 gX3_digest_X3_mixes rfl rfl rfl (by decide +kernel) ⟨Nat.le_of_ble_eq_true rfl, Nat.le_of_ble_eq_true rfl⟩) rfl rfl rfl rfl (Nat.le_of_ble_eq_true rfl) dX3_digest_238 (Nat.zero_le _) (Nat.zero_le _) ?_
      obtain ⟨z5, hz5⟩ : ∃ y9 : Int32, y9 = (z.1 + (1 : Int32)) := ⟨_, rfl⟩
      have hf := hf.trans (g_let_eq hz5)
      have hok := g_let_p hz5 hok
      refine x_iinc (v := z5) (lv' := [(0, .ref (q 0)), (1, .int z5)]) C dX3_digest_241 1 rfl hz5.symm (by decide) [1, 0] rfl ?_
      refine x_goto (tgt := 222) C dX3_digest_244 (by decide) ?_
      exact ih ((z5, z4)) (rOk_t hnx hf) (fun z' hz => K0 z' ((run_t hf).trans hz))
noncomputable def f_r_digest (m : gM) (h : gN) : Int64 × gM × gN := g_let (g_set m 0 (upd (m 0) 6 (0 : Int32))) (fun z1 : gM => g_let (g_setN h 0 (vp_updL (h 0) 11 (2731 : Int64))) (fun z2 : gN => g_let (run (L_r_digest_14 z1) 400 (((0 : Int32), z2))) (fun z4 : Int32 × gN => g_let (f_r_mixes z1 z4.2 ((z1 1 (358 : Int32).toNatClampNeg).toInt64)) (fun z6 : gN => g_let (f_r_mixes z1 z6 ((z1 1 (359 : Int32).toNatClampNeg).toInt64)) (fun z8 : gN => g_let (run (L_r_digest_64 z1) 400 (((0 : Int32), z8))) (fun z10 : Int32 × gN => g_let (run (L_r_digest_96 z1) 400 (((0 : Int32), z10.2))) (fun z12 : Int32 × gN => g_let (run (L_r_digest_115 z1) 400 (((0 : Int32), z12.2))) (fun z14 : Int32 × gN => g_let (run (L_r_digest_144) 400 (((0 : Int32), z1, z14.2))) (fun z16 : Int32 × gM × gN => g_let (f_r_rewritten z16.2.1 (1 : Int32) (z16.2.1 1 (358 : Int32).toNatClampNeg)) (fun z18 : Int32 × gM => g_let (f_r_mixes z18.2 z16.2.2 ((z18.1).toInt64)) (fun z20 : gN => g_let (f_r_best z18.2 (2 : Int32)) (fun z22 : Int32 × gM => g_let (f_r_mixes z22.2 z20 ((z22.1).toInt64)) (fun z24 : gN => g_let (f_r_mixes z22.2 z24 (f_j_d2l (f_r_amplified z22.2))) (fun z28 : gN => g_let (f_r_mixes z22.2 z28 ((z22.2 0 5).toInt64)) (fun z30 : gN => g_let (run (L_r_digest_222 z22.2) 400 (((0 : Int32), z30))) (fun z32 : Int32 × gN => ((z32.2 0 11), z22.2, z32.2)))))))))))))))))
noncomputable def o_r_digest (m : gM) (h : gN) : Prop := g_let (g_set m 0 (upd (m 0) 6 (0 : Int32))) (fun z1 : gM => g_let (g_setN h 0 (vp_updL (h 0) 11 (2731 : Int64))) (fun z2 : gN => (rOk (L_r_digest_14 z1) (K_r_digest_14 z1) 400 (((0 : Int32), z2))) ∧ (g_let (run (L_r_digest_14 z1) 400 (((0 : Int32), z2))) (fun z4 : Int32 × gN => (o_r_mixes z1 z4.2 ((z1 1 (358 : Int32).toNatClampNeg).toInt64)) ∧ (g_let (f_r_mixes z1 z4.2 ((z1 1 (358 : Int32).toNatClampNeg).toInt64)) (fun z6 : gN => (o_r_mixes z1 z6 ((z1 1 (359 : Int32).toNatClampNeg).toInt64)) ∧ (g_let (f_r_mixes z1 z6 ((z1 1 (359 : Int32).toNatClampNeg).toInt64)) (fun z8 : gN => (rOk (L_r_digest_64 z1) (K_r_digest_64 z1) 400 (((0 : Int32), z8))) ∧ (g_let (run (L_r_digest_64 z1) 400 (((0 : Int32), z8))) (fun z10 : Int32 × gN => (rOk (L_r_digest_96 z1) (K_r_digest_96 z1) 400 (((0 : Int32), z10.2))) ∧ (g_let (run (L_r_digest_96 z1) 400 (((0 : Int32), z10.2))) (fun z12 : Int32 × gN => (rOk (L_r_digest_115 z1) (K_r_digest_115 z1) 400 (((0 : Int32), z12.2))) ∧ (g_let (run (L_r_digest_115 z1) 400 (((0 : Int32), z12.2))) (fun z14 : Int32 × gN => (rOk (L_r_digest_144) (K_r_digest_144) 400 (((0 : Int32), z1, z14.2))) ∧ (g_let (run (L_r_digest_144) 400 (((0 : Int32), z1, z14.2))) (fun z16 : Int32 × gM × gN => (o_r_rewritten z16.2.1 (1 : Int32) (z16.2.1 1 (358 : Int32).toNatClampNeg)) ∧ (g_let (f_r_rewritten z16.2.1 (1 : Int32) (z16.2.1 1 (358 : Int32).toNatClampNeg)) (fun z18 : Int32 × gM => (o_r_mixes z18.2 z16.2.2 ((z18.1).toInt64)) ∧ (g_let (f_r_mixes z18.2 z16.2.2 ((z18.1).toInt64)) (fun z20 : gN => (o_r_best z18.2 (2 : Int32)) ∧ (g_let (f_r_best z18.2 (2 : Int32)) (fun z22 : Int32 × gM => (o_r_mixes z22.2 z20 ((z22.1).toInt64)) ∧ (g_let (f_r_mixes z22.2 z20 ((z22.1).toInt64)) (fun z24 : gN => (o_r_amplified z22.2) ∧ ((o_j_d2l (f_r_amplified z22.2)) ∧ ((o_r_mixes z22.2 z24 (f_j_d2l (f_r_amplified z22.2))) ∧ (g_let (f_r_mixes z22.2 z24 (f_j_d2l (f_r_amplified z22.2))) (fun z28 : gN => (o_r_mixes z22.2 z28 ((z22.2 0 5).toInt64)) ∧ (g_let (f_r_mixes z22.2 z28 ((z22.2 0 5).toInt64)) (fun z30 : gN => (rOk (L_r_digest_222 z22.2) (K_r_digest_222 z22.2) 400 (((0 : Int32), z30))) ∧ (g_let (run (L_r_digest_222 z22.2) 400 (((0 : Int32), z30))) (fun z32 : Int32 × gN => True))))))))))))))))))))))))))))))))
set_option maxRecDepth 100000 in
set_option maxHeartbeats 4000000 in
theorem c_r_digest (l : Launch) (G : gG) (q : Nat → Nat) (m : gM) (h : gN) (hok : o_r_digest m h) : gMl l yX3_digest wsX3_digest rm_r_digest G shM q m h [.ref (q 0)] ((f_r_digest m h).2.1) ((f_r_digest m h).2.2) ((f_r_digest m h).1) := by
  intro sz
  refine g_met (cc := cX3_digest) (maxL := 2) (ret := (some .long)) (own := RX3) (Qc := fun sz => gQl G shM q ((f_r_digest m h).2.1) ((f_r_digest m h).2.2) sz ((f_r_digest m h).1)) (by decide) rfl rfl (Nat.le_of_ble_eq_true rfl) (fun p e s m9 below meth c C hq hr => ?_)
  refine x_lv (lv' := [(0, .ref (q 0))]) [0] rfl ?_
  have hf := f_r_digest.eq_1 m h
  have hok := Eq.mp (o_r_digest.eq_1 m h) hok
  refine x_aload_n C dX3_digest_0 rfl 0 rfl ?_
  refine x_iconst (v := (0 : Int32)) C dX3_digest_1 (by decide) ?_
  obtain ⟨z1, hz1⟩ : ∃ y9 : gM, y9 = g_set m 0 (upd (m 0) 6 (0 : Int32)) := ⟨_, rfl⟩
  have hf := hf.trans (g_let_eq hz1)
  have hok := g_let_p hz1 hok
  refine x_puti (μ' := z1) (ty := .int) C hq tyX3 tyX3_ok nmX3 in_X3_digest_3 0 rfl rfl 6 (by decide) k_X3_digest_25 rfl (tyX3_ok 6 (by decide)) rfl rfl rfl hz1 dX3_digest_2 ?_
  refine x_aload_n C dX3_digest_5 rfl 0 rfl ?_
  refine x_ldc2 (v := (2731 : Int64)) C kc_X3_digest_187 dX3_digest_6 ?_
  obtain ⟨z2, hz2⟩ : ∃ y9 : gN, y9 = g_setN h 0 (vp_updL (h 0) 11 (2731 : Int64)) := ⟨_, rfl⟩
  have hf := hf.trans (g_let_eq hz2)
  have hok := g_let_p hz2 hok
  refine x_putl (ν' := z2) C hq tyX3 tyX3_ok nmX3 in_X3_digest_3 0 rfl rfl 11 (by decide) k_X3_digest_179 rfl (tyX3_ok 11 (by decide)) rfl hz2 dX3_digest_9 ?_
  refine x_iconst (v := (0 : Int32)) C dX3_digest_12 (by decide) ?_
  refine x_istore_n (lv' := [(0, .ref (q 0)), (1, .int (0 : Int32))]) C dX3_digest_13 rfl (by decide) [1, 0] rfl ?_
  have s3 := And.left hok
  have hok := And.right hok
  refine lp_r_digest_14 C hq z1 400 (((0 : Int32), z2)) s3 (fun z4 hz4 => ?_)
  have hf := hf.trans (g_let_eq hz4.symm)
  have hok := g_let_p hz4.symm hok
  refine x_aload_n C dX3_digest_36 rfl 0 rfl ?_
  refine x_aload_n C dX3_digest_37 rfl 0 rfl ?_
  refine x_get (v := .ref (q 1)) C in_X3_digest_3 0 rfl rfl 0 (by decide) k_X3_digest_7 rfl rfl dX3_digest_38 ?_
  refine x_sipush (v := (358 : Int32)) C dX3_digest_41 (by decide) ?_
  refine x_iald (n := 364) (v := (z1 1 (358 : Int32).toNatClampNeg)) C 1 rfl (by unfold vp_in; decide) rfl dX3_digest_44 ?_
  refine x_i2l C dX3_digest_45 rfl ?_
  have s5 := And.left hok
  have hok := And.right hok
  obtain ⟨z6, hz6⟩ : ∃ y9 : gN, y9 = f_r_mixes z1 z4.2 ((z1 1 (358 : Int32).toNatClampNeg).toInt64) := ⟨_, rfl⟩
  have hf := hf.trans (g_let_eq hz6)
  have hok := g_let_p hz6 hok
  have hmz6 : gMv l yX3_mixes wsX3_mixes rm_r_mixes G shM q z1 z4.2 [.ref (q 0), .long ((z1 1 (358 : Int32).toNatClampNeg).toInt64)] z1 z6 := by rw [hz6]; exact c_r_mixes l G q z1 z4.2 ((z1 1 (358 : Int32).toNatClampNeg).toInt64) s5
  refine x_callVv (n := 1) C hq gFr_same (hmz6) (cwV 1 C.2.2.2.2.2.1 gX3_digest_X3_mixes rfl rfl rfl (by decide +kernel) ⟨Nat.le_of_ble_eq_true rfl, Nat.le_of_ble_eq_true rfl⟩) rfl rfl rfl rfl (Nat.le_of_ble_eq_true rfl) dX3_digest_46 (Nat.zero_le _) (Nat.zero_le _) ?_
  refine x_aload_n C dX3_digest_49 rfl 0 rfl ?_
  refine x_aload_n C dX3_digest_50 rfl 0 rfl ?_
  refine x_get (v := .ref (q 1)) C in_X3_digest_3 0 rfl rfl 0 (by decide) k_X3_digest_7 rfl rfl dX3_digest_51 ?_
  refine x_sipush (v := (359 : Int32)) C dX3_digest_54 (by decide) ?_
  refine x_iald (n := 364) (v := (z1 1 (359 : Int32).toNatClampNeg)) C 1 rfl (by unfold vp_in; decide) rfl dX3_digest_57 ?_
  refine x_i2l C dX3_digest_58 rfl ?_
  have s7 := And.left hok
  have hok := And.right hok
  obtain ⟨z8, hz8⟩ : ∃ y9 : gN, y9 = f_r_mixes z1 z6 ((z1 1 (359 : Int32).toNatClampNeg).toInt64) := ⟨_, rfl⟩
  have hf := hf.trans (g_let_eq hz8)
  have hok := g_let_p hz8 hok
  have hmz8 : gMv l yX3_mixes wsX3_mixes rm_r_mixes G shM q z1 z6 [.ref (q 0), .long ((z1 1 (359 : Int32).toNatClampNeg).toInt64)] z1 z8 := by rw [hz8]; exact c_r_mixes l G q z1 z6 ((z1 1 (359 : Int32).toNatClampNeg).toInt64) s7
  refine x_callVv (n := 1) C hq gFr_same (hmz8) (cwV 1 C.2.2.2.2.2.1 gX3_digest_X3_mixes rfl rfl rfl (by decide +kernel) ⟨Nat.le_of_ble_eq_true rfl, Nat.le_of_ble_eq_true rfl⟩) rfl rfl rfl rfl (Nat.le_of_ble_eq_true rfl) dX3_digest_59 (Nat.zero_le _) (Nat.zero_le _) ?_
  refine x_iconst (v := (0 : Int32)) C dX3_digest_62 (by decide) ?_
  refine x_istore_n (lv' := [(0, .ref (q 0)), (1, .int (0 : Int32))]) C dX3_digest_63 rfl (by decide) [1, 0] rfl ?_
  have s9 := And.left hok
  have hok := And.right hok
  refine lp_r_digest_64 C hq z1 400 (((0 : Int32), z8)) s9 (fun z10 hz10 => ?_)
  have hf := hf.trans (g_let_eq hz10.symm)
  have hok := g_let_p hz10.symm hok
  refine x_iconst (v := (0 : Int32)) C dX3_digest_94 (by decide) ?_
  refine x_istore_n (lv' := [(0, .ref (q 0)), (1, .int (0 : Int32))]) C dX3_digest_95 rfl (by decide) [1, 0] rfl ?_
  have s11 := And.left hok
  have hok := And.right hok
  refine lp_r_digest_96 C hq z1 400 (((0 : Int32), z10.2)) s11 (fun z12 hz12 => ?_)
  have hf := hf.trans (g_let_eq hz12.symm)
  have hok := g_let_p hz12.symm hok
  refine x_iconst (v := (0 : Int32)) C dX3_digest_113 (by decide) ?_
  refine x_istore_n (lv' := [(0, .ref (q 0)), (1, .int (0 : Int32))]) C dX3_digest_114 rfl (by decide) [1, 0] rfl ?_
  have s13 := And.left hok
  have hok := And.right hok
  refine lp_r_digest_115 C hq z1 400 (((0 : Int32), z12.2)) s13 (fun z14 hz14 => ?_)
  have hf := hf.trans (g_let_eq hz14.symm)
  have hok := g_let_p hz14.symm hok
  refine x_iconst (v := (0 : Int32)) C dX3_digest_142 (by decide) ?_
  refine x_istore_n (lv' := [(0, .ref (q 0)), (1, .int (0 : Int32))]) C dX3_digest_143 rfl (by decide) [1, 0] rfl ?_
  have s15 := And.left hok
  have hok := And.right hok
  refine lp_r_digest_144 C hq  400 (((0 : Int32), z1, z14.2)) s15 (fun z16 hz16 => ?_)
  have hf := hf.trans (g_let_eq hz16.symm)
  have hok := g_let_p hz16.symm hok
  refine x_aload_n C dX3_digest_172 rfl 0 rfl ?_
  refine x_aload_n C dX3_digest_173 rfl 0 rfl ?_
  refine x_iconst (v := (1 : Int32)) C dX3_digest_174 (by decide) ?_
  refine x_aload_n C dX3_digest_175 rfl 0 rfl ?_
  refine x_get (v := .ref (q 1)) C in_X3_digest_3 0 rfl rfl 0 (by decide) k_X3_digest_7 rfl rfl dX3_digest_176 ?_
  refine x_sipush (v := (358 : Int32)) C dX3_digest_179 (by decide) ?_
  refine x_iald (n := 364) (v := (z16.2.1 1 (358 : Int32).toNatClampNeg)) C 1 rfl (by unfold vp_in; decide) rfl dX3_digest_182 ?_
  have s17 := And.left hok
  have hok := And.right hok
  obtain ⟨z18, hz18⟩ : ∃ y9 : Int32 × gM, y9 = f_r_rewritten z16.2.1 (1 : Int32) (z16.2.1 1 (358 : Int32).toNatClampNeg) := ⟨_, rfl⟩
  have hf := hf.trans (g_let_eq hz18)
  have hok := g_let_p hz18 hok
  have hmz18 : gMi l yX3_rewritten wsX3_rewritten rm_r_rewritten G shM q z16.2.1 z16.2.2 [.ref (q 0), .int (1 : Int32), .int (z16.2.1 1 (358 : Int32).toNatClampNeg)] z18.2 z16.2.2 z18.1 := by rw [hz18]; exact c_r_rewritten l G q z16.2.1 z16.2.2 (1 : Int32) (z16.2.1 1 (358 : Int32).toNatClampNeg) s17
  refine x_callVi (n := 2) C hq gFr_same (hmz18) (cwV 2 C.2.2.2.2.2.1 gX3_digest_X3_rewritten rfl rfl rfl (by decide +kernel) ⟨Nat.le_of_ble_eq_true rfl, Nat.le_of_ble_eq_true rfl⟩) rfl rfl rfl rfl (Nat.le_of_ble_eq_true rfl) dX3_digest_183 (Nat.zero_le _) (Nat.zero_le _) ?_
  refine x_i2l C dX3_digest_186 rfl ?_
  have s19 := And.left hok
  have hok := And.right hok
  obtain ⟨z20, hz20⟩ : ∃ y9 : gN, y9 = f_r_mixes z18.2 z16.2.2 ((z18.1).toInt64) := ⟨_, rfl⟩
  have hf := hf.trans (g_let_eq hz20)
  have hok := g_let_p hz20 hok
  have hmz20 : gMv l yX3_mixes wsX3_mixes rm_r_mixes G shM q z18.2 z16.2.2 [.ref (q 0), .long ((z18.1).toInt64)] z18.2 z20 := by rw [hz20]; exact c_r_mixes l G q z18.2 z16.2.2 ((z18.1).toInt64) s19
  refine x_callVv (n := 1) C hq gFr_same (hmz20) (cwV 1 C.2.2.2.2.2.1 gX3_digest_X3_mixes rfl rfl rfl (by decide +kernel) ⟨Nat.le_of_ble_eq_true rfl, Nat.le_of_ble_eq_true rfl⟩) rfl rfl rfl rfl (Nat.le_of_ble_eq_true rfl) dX3_digest_187 (Nat.zero_le _) (Nat.zero_le _) ?_
  refine x_aload_n C dX3_digest_190 rfl 0 rfl ?_
  refine x_aload_n C dX3_digest_191 rfl 0 rfl ?_
  refine x_iconst (v := (2 : Int32)) C dX3_digest_192 (by decide) ?_
  have s21 := And.left hok
  have hok := And.right hok
  obtain ⟨z22, hz22⟩ : ∃ y9 : Int32 × gM, y9 = f_r_best z18.2 (2 : Int32) := ⟨_, rfl⟩
  have hf := hf.trans (g_let_eq hz22)
  have hok := g_let_p hz22 hok
  have hmz22 : gMi l yX3_best wsX3_best rm_r_best G shM q z18.2 z20 [.ref (q 0), .int (2 : Int32)] z22.2 z20 z22.1 := by rw [hz22]; exact c_r_best l G q z18.2 z20 (2 : Int32) s21
  refine x_callVi (n := 1) C hq gFr_same (hmz22) (cwV 1 C.2.2.2.2.2.1 gX3_digest_X3_best rfl rfl rfl (by decide +kernel) ⟨Nat.le_of_ble_eq_true rfl, Nat.le_of_ble_eq_true rfl⟩) rfl rfl rfl rfl (Nat.le_of_ble_eq_true rfl) dX3_digest_193 (Nat.zero_le _) (Nat.zero_le _) ?_
  refine x_i2l C dX3_digest_196 rfl ?_
  have s23 := And.left hok
  have hok := And.right hok
  obtain ⟨z24, hz24⟩ : ∃ y9 : gN, y9 = f_r_mixes z22.2 z20 ((z22.1).toInt64) := ⟨_, rfl⟩
  have hf := hf.trans (g_let_eq hz24)
  have hok := g_let_p hz24 hok
  have hmz24 : gMv l yX3_mixes wsX3_mixes rm_r_mixes G shM q z22.2 z20 [.ref (q 0), .long ((z22.1).toInt64)] z22.2 z24 := by rw [hz24]; exact c_r_mixes l G q z22.2 z20 ((z22.1).toInt64) s23
  refine x_callVv (n := 1) C hq gFr_same (hmz24) (cwV 1 C.2.2.2.2.2.1 gX3_digest_X3_mixes rfl rfl rfl (by decide +kernel) ⟨Nat.le_of_ble_eq_true rfl, Nat.le_of_ble_eq_true rfl⟩) rfl rfl rfl rfl (Nat.le_of_ble_eq_true rfl) dX3_digest_197 (Nat.zero_le _) (Nat.zero_le _) ?_
  refine x_aload_n C dX3_digest_200 rfl 0 rfl ?_
  refine x_aload_n C dX3_digest_201 rfl 0 rfl ?_
  have s25 := And.left hok
  have hok := And.right hok
  refine x_callVd (n := 0) C hq gFr_same (c_r_amplified l G q z22.2 z24 s25) (cwV 0 C.2.2.2.2.2.1 gX3_digest_X3_amplified rfl rfl rfl (by decide +kernel) ⟨Nat.le_of_ble_eq_true rfl, Nat.le_of_ble_eq_true rfl⟩) rfl rfl rfl rfl (Nat.le_of_ble_eq_true rfl) dX3_digest_202 (Nat.zero_le _) (Nat.zero_le _) ?_
  have s26 := And.left hok
  have hok := And.right hok
  refine x_callSl (n := 1) C hq (gFr_pure gs_M_0_) (c_j_d2l l G (g_sel [] q) (g_sel [] z22.2) (g_sel [] z24) (f_r_amplified z22.2) s26) (va_cwS 1 C.2.2.2.2.2.1 gX3_digest_Jxe99ae_doubleToLongBits_ccdee rfl rfl rfl (by decide +kernel) ⟨Nat.le_of_ble_eq_true rfl, Nat.le_of_ble_eq_true rfl⟩) rfl rfl (Nat.le_of_ble_eq_true rfl) dX3_digest_205 (Nat.zero_le _) (Nat.zero_le _) ?_
  have s27 := And.left hok
  have hok := And.right hok
  obtain ⟨z28, hz28⟩ : ∃ y9 : gN, y9 = f_r_mixes z22.2 z24 (f_j_d2l (f_r_amplified z22.2)) := ⟨_, rfl⟩
  have hf := hf.trans (g_let_eq hz28)
  have hok := g_let_p hz28 hok
  have hmz28 : gMv l yX3_mixes wsX3_mixes rm_r_mixes G shM q z22.2 z24 [.ref (q 0), .long (f_j_d2l (f_r_amplified z22.2))] z22.2 z28 := by rw [hz28]; exact c_r_mixes l G q z22.2 z24 (f_j_d2l (f_r_amplified z22.2)) s27
  refine x_callVv (n := 1) C hq gFr_same (hmz28) (cwV 1 C.2.2.2.2.2.1 gX3_digest_X3_mixes rfl rfl rfl (by decide +kernel) ⟨Nat.le_of_ble_eq_true rfl, Nat.le_of_ble_eq_true rfl⟩) rfl rfl rfl rfl (Nat.le_of_ble_eq_true rfl) dX3_digest_208 (Nat.zero_le _) (Nat.zero_le _) ?_
  refine x_aload_n C dX3_digest_211 rfl 0 rfl ?_
  refine x_aload_n C dX3_digest_212 rfl 0 rfl ?_
  refine x_get (v := .int (z22.2 0 5)) C in_X3_digest_3 0 rfl rfl 5 (by decide) k_X3_digest_98 rfl rfl dX3_digest_213 ?_
  refine x_i2l C dX3_digest_216 rfl ?_
  have s29 := And.left hok
  have hok := And.right hok
  obtain ⟨z30, hz30⟩ : ∃ y9 : gN, y9 = f_r_mixes z22.2 z28 ((z22.2 0 5).toInt64) := ⟨_, rfl⟩
  have hf := hf.trans (g_let_eq hz30)
  have hok := g_let_p hz30 hok
  have hmz30 : gMv l yX3_mixes wsX3_mixes rm_r_mixes G shM q z22.2 z28 [.ref (q 0), .long ((z22.2 0 5).toInt64)] z22.2 z30 := by rw [hz30]; exact c_r_mixes l G q z22.2 z28 ((z22.2 0 5).toInt64) s29
  refine x_callVv (n := 1) C hq gFr_same (hmz30) (cwV 1 C.2.2.2.2.2.1 gX3_digest_X3_mixes rfl rfl rfl (by decide +kernel) ⟨Nat.le_of_ble_eq_true rfl, Nat.le_of_ble_eq_true rfl⟩) rfl rfl rfl rfl (Nat.le_of_ble_eq_true rfl) dX3_digest_217 (Nat.zero_le _) (Nat.zero_le _) ?_
  refine x_iconst (v := (0 : Int32)) C dX3_digest_220 (by decide) ?_
  refine x_istore_n (lv' := [(0, .ref (q 0)), (1, .int (0 : Int32))]) C dX3_digest_221 rfl (by decide) [1, 0] rfl ?_
  have s31 := And.left hok
  have hok := And.right hok
  refine lp_r_digest_222 C hq z22.2 400 (((0 : Int32), z30)) s31 (fun z32 hz32 => ?_)
  have hf := hf.trans (g_let_eq hz32.symm)
  have hok := g_let_p hz32.symm hok
  refine x_aload_n C dX3_digest_247 rfl 0 rfl ?_
  refine x_get (v := .long (z32.2 0 11)) C in_X3_digest_3 0 rfl rfl 11 (by decide) k_X3_digest_179 rfl rfl dX3_digest_248 ?_
  exact g_lret C hr dX3_digest_251 (congrArg (fun z => z.1) hf).symm (congrArg (fun z => z.2.1) hf).symm (congrArg (fun z => z.2.2) hf).symm
