abbrev rm_h_isIn : Room := { frames := 0, cells := 0, slots := 0, locals := 0 }
noncomputable def f_h_isIn (a1 : Int32) (a2 : Int32) : Int32 := (if a1 < 0 then (0 : Int32) else (if a2 ≤ a1 then (0 : Int32) else (1 : Int32)))
noncomputable def o_h_isIn (a1 : Int32) (a2 : Int32) : Prop := (if a1 < 0 then True else (if a2 ≤ a1 then True else True))
set_option maxRecDepth 100000 in
set_option maxHeartbeats 4000000 in
theorem c_h_isIn (l : Launch) (G : gG) (q : Nat → Nat) (m : gM) (h : gN) (a1 : Int32) (a2 : Int32) (hok : o_h_isIn a1 a2) : gMi l yX2_isIn wsX2_isIn rm_h_isIn G sh0 q m h [.int a1, .int a2] m h (f_h_isIn a1 a2) := by
  intro sz
  refine g_met (cc := cX2_isIn) (maxL := 2) (ret := (some .boolean)) (own := RX2) (Qc := fun sz => gQi G sh0 q m h sz (f_h_isIn a1 a2)) (by decide) rfl rfl (Nat.le_of_ble_eq_true rfl) (fun p e s m9 below meth c C hq hr => ?_)
  refine x_lv (lv' := [(0, .int a1), (1, .int a2)]) [0, 1] rfl ?_
  have hf := f_h_isIn.eq_1 a1 a2
  have hok := Eq.mp (o_h_isIn.eq_1 a1 a2) hok
  refine x_iload_n C dX2_isIn_0 rfl 0 rfl ?_
  refine x_if_lt (tgt := 13) C dX2_isIn_1 (by decide) (fun c1 => ?_) (fun c1 => ?_)
  · have hf := hf.trans (if_pos c1)
    have hok := g_ip c1 hok
    refine x_iconst (v := (0 : Int32)) C dX2_isIn_13 (by decide) ?_
    exact g_iret C hr (g_nz (Or.inl rfl)) dX2_isIn_14 hf.symm rfl rfl
  · have hf := hf.trans (if_neg c1)
    have hok := g_in c1 hok
    refine x_iload_n C dX2_isIn_4 rfl 0 rfl ?_
    refine x_iload_n C dX2_isIn_5 rfl 1 rfl ?_
    refine x_icmp_ge (tgt := 13) C dX2_isIn_6 (by decide) (fun c2 => ?_) (fun c2 => ?_)
    · have hf := hf.trans (if_pos c2)
      have hok := g_ip c2 hok
      refine x_iconst (v := (0 : Int32)) C dX2_isIn_13 (by decide) ?_
      exact g_iret C hr (g_nz (Or.inl rfl)) dX2_isIn_14 hf.symm rfl rfl
    · have hf := hf.trans (if_neg c2)
      have hok := g_in c2 hok
      refine x_iconst (v := (1 : Int32)) C dX2_isIn_9 (by decide) ?_
      refine x_goto (tgt := 14) C dX2_isIn_10 (by decide) ?_
      exact g_iret C hr (g_nz (Or.inr rfl)) dX2_isIn_14 hf.symm rfl rfl
abbrev rm_h_isSettingValue : Room := { frames := 1, cells := 0, slots := 0, locals := 21 }
noncomputable def f_h_isSettingValue (a1 : Int32) (a2 : Int32) : Int32 := (if a1 = 0 then (f_h_isIn a2 (3 : Int32)) else (if a2 < (2 : Int32) then (0 : Int32) else (if (4 : Int32) < a2 then (0 : Int32) else (1 : Int32))))
noncomputable def o_h_isSettingValue (a1 : Int32) (a2 : Int32) : Prop := (if a1 = 0 then (o_h_isIn a2 (3 : Int32)) ∧ (((f_h_isIn a2 (3 : Int32)) = 0 ∨ (f_h_isIn a2 (3 : Int32)) = 1) ∧ True) else (if a2 < (2 : Int32) then True else (if (4 : Int32) < a2 then True else True)))
set_option maxRecDepth 100000 in
set_option maxHeartbeats 4000000 in
theorem c_h_isSettingValue (l : Launch) (G : gG) (q : Nat → Nat) (m : gM) (h : gN) (a1 : Int32) (a2 : Int32) (hok : o_h_isSettingValue a1 a2) : gMi l yX2_isSettingValue wsX2_isSettingValue rm_h_isSettingValue G sh0 q m h [.int a1, .int a2] m h (f_h_isSettingValue a1 a2) := by
  intro sz
  refine g_met (cc := cX2_isSettingValue) (maxL := 2) (ret := (some .boolean)) (own := RX2) (Qc := fun sz => gQi G sh0 q m h sz (f_h_isSettingValue a1 a2)) (by decide) rfl rfl (Nat.le_of_ble_eq_true rfl) (fun p e s m9 below meth c C hq hr => ?_)
  refine x_lv (lv' := [(0, .int a1), (1, .int a2)]) [0, 1] rfl ?_
  have hf := f_h_isSettingValue.eq_1 a1 a2
  have hok := Eq.mp (o_h_isSettingValue.eq_1 a1 a2) hok
  refine x_iload_n C dX2_isSettingValue_0 rfl 0 rfl ?_
  refine x_if_ne (tgt := 12) C dX2_isSettingValue_1 (by decide) (fun c1 => ?_) (fun c1 => ?_)
  · have hf := hf.trans (if_neg c1)
    have hok := g_in c1 hok
    refine x_iload_n C dX2_isSettingValue_12 rfl 1 rfl ?_
    refine x_iconst (v := (2 : Int32)) C dX2_isSettingValue_13 (by decide) ?_
    refine x_icmp_lt (tgt := 26) C dX2_isSettingValue_14 (by decide) (fun c2 => ?_) (fun c2 => ?_)
    · have hf := hf.trans (if_pos c2)
      have hok := g_ip c2 hok
      refine x_iconst (v := (0 : Int32)) C dX2_isSettingValue_26 (by decide) ?_
      exact g_iret C hr (g_nz (Or.inl rfl)) dX2_isSettingValue_27 hf.symm rfl rfl
    · have hf := hf.trans (if_neg c2)
      have hok := g_in c2 hok
      refine x_iload_n C dX2_isSettingValue_17 rfl 1 rfl ?_
      refine x_iconst (v := (4 : Int32)) C dX2_isSettingValue_18 (by decide) ?_
      refine x_icmp_gt (tgt := 26) C dX2_isSettingValue_19 (by decide) (fun c3 => ?_) (fun c3 => ?_)
      · have hf := hf.trans (if_pos c3)
        have hok := g_ip c3 hok
        refine x_iconst (v := (0 : Int32)) C dX2_isSettingValue_26 (by decide) ?_
        exact g_iret C hr (g_nz (Or.inl rfl)) dX2_isSettingValue_27 hf.symm rfl rfl
      · have hf := hf.trans (if_neg c3)
        have hok := g_in c3 hok
        refine x_iconst (v := (1 : Int32)) C dX2_isSettingValue_22 (by decide) ?_
        refine x_goto (tgt := 27) C dX2_isSettingValue_23 (by decide) ?_
        exact g_iret C hr (g_nz (Or.inr rfl)) dX2_isSettingValue_27 hf.symm rfl rfl
  · have hf := hf.trans (if_pos c1)
    have hok := g_ip c1 hok
    refine x_iload_n C dX2_isSettingValue_4 rfl 1 rfl ?_
    refine x_iconst (v := (3 : Int32)) C dX2_isSettingValue_5 (by decide) ?_
    have s4 := And.left hok
    have hok := And.right hok
    refine x_callSi (n := 2) C hq gFr_same (c_h_isIn l G q m h a2 (3 : Int32) s4) (va_cwS 2 C.2.2.2.2.2.1 gX2_isSettingValue_X2_isIn rfl rfl rfl (by decide +kernel) ⟨Nat.le_of_ble_eq_true rfl, Nat.le_of_ble_eq_true rfl⟩) rfl rfl (Nat.le_of_ble_eq_true rfl) dX2_isSettingValue_6 (Nat.zero_le _) (Nat.zero_le _) ?_
    refine x_goto (tgt := 27) C dX2_isSettingValue_9 (by decide) ?_
    have h01 := And.left hok
    exact g_iret C hr (g_nz h01) dX2_isSettingValue_27 hf.symm rfl rfl
set_option maxRecDepth 20000 in
theorem kc_X2_mixed_234 : Cond.constantLong RX2 234 (31) ∈ wsX2_mixed := by decide +kernel
abbrev rm_h_mixed : Room := { frames := 0, cells := 0, slots := 0, locals := 0 }
noncomputable def f_h_mixed (a1 : Int64) (a2 : Int64) : Int64 := (((31 : Int64) * a1) + a2)
noncomputable def o_h_mixed (a1 : Int64) (a2 : Int64) : Prop := True
set_option maxRecDepth 100000 in
set_option maxHeartbeats 4000000 in
theorem c_h_mixed (l : Launch) (G : gG) (q : Nat → Nat) (m : gM) (h : gN) (a1 : Int64) (a2 : Int64) (hok : o_h_mixed a1 a2) : gMl l yX2_mixed wsX2_mixed rm_h_mixed G sh0 q m h [.long a1, .long a2] m h (f_h_mixed a1 a2) := by
  intro sz
  refine g_met (cc := cX2_mixed) (maxL := 4) (ret := (some .long)) (own := RX2) (Qc := fun sz => gQl G sh0 q m h sz (f_h_mixed a1 a2)) (by decide) rfl rfl (Nat.le_of_ble_eq_true rfl) (fun p e s m9 below meth c C hq hr => ?_)
  refine x_lv (lv' := [(0, .long a1), (2, .long a2)]) [0, 1] rfl ?_
  have hf := f_h_mixed.eq_1 a1 a2
  have hok := Eq.mp (o_h_mixed.eq_1 a1 a2) hok
  refine x_ldc2 (v := (31 : Int64)) C kc_X2_mixed_234 dX2_mixed_0 ?_
  refine x_lload_n C dX2_mixed_3 rfl 0 rfl ?_
  refine x_lmul C dX2_mixed_4 ?_
  refine x_lload_n C dX2_mixed_5 rfl 1 rfl ?_
  refine x_ladd C dX2_mixed_6 ?_
  exact g_lret C hr dX2_mixed_7 hf.symm rfl rfl
set_option maxRecDepth 20000 in
theorem kc_X2_bitsOf_238 : Cond.constantDouble RX2 238 (4611686018427387904) ∈ wsX2_bitsOf := by decide +kernel
set_option maxRecDepth 20000 in
theorem kc_X2_bitsOf_240 : Cond.constantDouble RX2 240 (4841369599423283200) ∈ wsX2_bitsOf := by decide +kernel
set_option maxRecDepth 20000 in
theorem kc_X2_bitsOf_236 : Cond.constantLong RX2 236 (1023) ∈ wsX2_bitsOf := by decide +kernel
abbrev rm_h_bitsOf : Room := { frames := 0, cells := 0, slots := 0, locals := 0 }
noncomputable def L_h_bitsOf_10 (x0 : UInt64) (z : UInt64 × Int64 × Int32) : Bool × (UInt64 × Int64 × Int32) := (if (1023 : Int32) ≤ z.2.2 then (false, (z.1, z.2.1, z.2.2)) else (if (Op.cmpValue (FP.dcmp z.1 (4611686018427387904 : UInt64)) .l) < 0 then (false, (z.1, z.2.1, z.2.2)) else g_let ((FP.ddiv z.1 (4611686018427387904 : UInt64))) (fun z4 : UInt64 => g_let ((z.2.1 + (1 : Int64))) (fun z5 : Int64 => g_let ((z.2.2 + (1 : Int32))) (fun z6 : Int32 => (true, (z4, z5, z6)))))))
noncomputable def K_h_bitsOf_10 (x0 : UInt64) (z : UInt64 × Int64 × Int32) : Prop := (if (1023 : Int32) ≤ z.2.2 then True else (if (Op.cmpValue (FP.dcmp z.1 (4611686018427387904 : UInt64)) .l) < 0 then True else (vf_n64 (FP.ddiv z.1 (4611686018427387904 : UInt64))) ∧ (g_let ((FP.ddiv z.1 (4611686018427387904 : UInt64))) (fun z4 : UInt64 => g_let ((z.2.1 + (1 : Int64))) (fun z5 : Int64 => g_let ((z.2.2 + (1 : Int32))) (fun z6 : Int32 => True))))))
set_option maxRecDepth 100000 in
set_option maxHeartbeats 4000000 in
theorem lp_h_bitsOf_10 {p : Program} {l : Launch} {e : Env} {s : State} {m9 : MethodId} {args : Array Value} {below : List Frame} {meth : Method} {c : Code} {G : gG} {A : Nat → Prop} {Q : State → Prop} {q : Nat → Nat} (C : xC p s m9 args meth c G A 7 cX2_bitsOf RX2 wsX2_bitsOf) (hq : gD A q sh0.length) (m : gM) (h : gN) (x0 : UInt64) : ∀ (n : Nat) (z : UInt64 × Int64 × Int32), rOk (L_h_bitsOf_10 x0) (K_h_bitsOf_10 x0) n z → (∀ z' : UInt64 × Int64 × Int32, run (L_h_bitsOf_10 x0) n z = z' → xJ p l e rm_h_bitsOf s m9 args below meth c G A 7 Q 0 0 sh0 q m h [(0, .double x0), (2, .double z'.1), (4, .long z'.2.1), (6, .int z'.2.2)] [] 44) → xJ p l e rm_h_bitsOf s m9 args below meth c G A 7 Q 0 0 sh0 q m h [(0, .double x0), (2, .double z.1), (4, .long z.2.1), (6, .int z.2.2)] [] 10 := by
  intro n
  induction n with
  | zero =>
    intro z hok _
    exact rOk_0 hok
  | succ n ih =>
    intro z hok K0
    have hnx := rOk_2 hok
    have hok := rOk_1 hok
    have hf := L_h_bitsOf_10.eq_1 x0 z
    have hok := Eq.mp (K_h_bitsOf_10.eq_1 x0 z) hok
    refine x_iload C dX2_bitsOf_10 3 rfl ?_
    refine x_sipush (v := (1023 : Int32)) C dX2_bitsOf_12 (by decide) ?_
    refine x_icmp_ge (tgt := 44) C dX2_bitsOf_15 (by decide) (fun c1 => ?_) (fun c1 => ?_)
    · have hf := hf.trans (if_pos c1)
      have hok := g_ip c1 hok
      exact K0 ((z.1, z.2.1, z.2.2)) (run_f hf)
    · have hf := hf.trans (if_neg c1)
      have hok := g_in c1 hok
      refine x_dload_n C dX2_bitsOf_18 rfl 1 rfl ?_
      refine x_ldc2d (v := (4611686018427387904 : UInt64)) C kc_X2_bitsOf_238 dX2_bitsOf_19 ?_
      refine x_dcmp C dX2_bitsOf_22 ?_
      refine x_if_lt (tgt := 44) C dX2_bitsOf_23 (by decide) (fun c2 => ?_) (fun c2 => ?_)
      · have hf := hf.trans (if_pos c2)
        have hok := g_ip c2 hok
        exact K0 ((z.1, z.2.1, z.2.2)) (run_f hf)
      · have hf := hf.trans (if_neg c2)
        have hok := g_in c2 hok
        refine x_dload_n C dX2_bitsOf_26 rfl 1 rfl ?_
        refine x_ldc2d (v := (4611686018427387904 : UInt64)) C kc_X2_bitsOf_238 dX2_bitsOf_27 ?_
        have s3 := And.left hok
        have hok := And.right hok
        refine x_ddiv C dX2_bitsOf_30 s3 ?_
        obtain ⟨z4, hz4⟩ : ∃ y9 : UInt64, y9 = (FP.ddiv z.1 (4611686018427387904 : UInt64)) := ⟨_, rfl⟩
        have hf := hf.trans (g_let_eq hz4)
        have hok := g_let_p hz4 hok
        refine x_topd hz4 ?_
        refine x_dstore_n (lv' := [(0, .double x0), (2, .double z4), (4, .long z.2.1), (6, .int z.2.2)]) C dX2_bitsOf_31 rfl (by decide) [1, 0, 2, 3] rfl ?_
        refine x_lload C dX2_bitsOf_32 2 rfl ?_
        refine x_lconst (v := (1 : Int64)) C dX2_bitsOf_34 (by decide) ?_
        refine x_ladd C dX2_bitsOf_35 ?_
        obtain ⟨z5, hz5⟩ : ∃ y9 : Int64, y9 = (z.2.1 + (1 : Int64)) := ⟨_, rfl⟩
        have hf := hf.trans (g_let_eq hz5)
        have hok := g_let_p hz5 hok
        refine x_topl hz5 ?_
        refine x_lstore (lv' := [(0, .double x0), (2, .double z4), (4, .long z5), (6, .int z.2.2)]) C dX2_bitsOf_36 (by decide) [1, 2, 0, 3] rfl ?_
        obtain ⟨z6, hz6⟩ : ∃ y9 : Int32, y9 = (z.2.2 + (1 : Int32)) := ⟨_, rfl⟩
        have hf := hf.trans (g_let_eq hz6)
        have hok := g_let_p hz6 hok
        refine x_iinc (v := z6) (lv' := [(0, .double x0), (2, .double z4), (4, .long z5), (6, .int z6)]) C dX2_bitsOf_38 3 rfl hz6.symm (by decide) [1, 2, 3, 0] rfl ?_
        refine x_goto (tgt := 10) C dX2_bitsOf_41 (by decide) ?_
        exact ih ((z4, z5, z6)) (rOk_t hnx hf) (fun z' hz => K0 z' ((run_t hf).trans hz))
noncomputable def f_h_bitsOf (a1 : UInt64) : Int64 := g_let (run (L_h_bitsOf_10 a1) 400 ((a1, (1023 : Int64), (0 : Int32)))) (fun z2 : UInt64 × Int64 × Int32 => ((z2.2.1 <<< (((52 : Int32)).toInt64 &&& 63)) + (FP.d2l (FP.dmul (FP.dsub z2.1 FP.dconst1) (4841369599423283200 : UInt64)))))
noncomputable def o_h_bitsOf (a1 : UInt64) : Prop := (rOk (L_h_bitsOf_10 a1) (K_h_bitsOf_10 a1) 400 ((a1, (1023 : Int64), (0 : Int32)))) ∧ (g_let (run (L_h_bitsOf_10 a1) 400 ((a1, (1023 : Int64), (0 : Int32)))) (fun z2 : UInt64 × Int64 × Int32 => (vf_n64 (FP.dsub z2.1 FP.dconst1)) ∧ ((vf_n64 (FP.dmul (FP.dsub z2.1 FP.dconst1) (4841369599423283200 : UInt64))) ∧ (True))))
set_option maxRecDepth 100000 in
set_option maxHeartbeats 4000000 in
theorem c_h_bitsOf (l : Launch) (G : gG) (q : Nat → Nat) (m : gM) (h : gN) (a1 : UInt64) (hok : o_h_bitsOf a1) : gMl l yX2_bitsOf wsX2_bitsOf rm_h_bitsOf G sh0 q m h [.double a1] m h (f_h_bitsOf a1) := by
  intro sz
  refine g_met (cc := cX2_bitsOf) (maxL := 7) (ret := (some .long)) (own := RX2) (Qc := fun sz => gQl G sh0 q m h sz (f_h_bitsOf a1)) (by decide) rfl rfl (Nat.le_of_ble_eq_true rfl) (fun p e s m9 below meth c C hq hr => ?_)
  refine x_lv (lv' := [(0, .double a1)]) [0] rfl ?_
  have hf := f_h_bitsOf.eq_1 a1
  have hok := Eq.mp (o_h_bitsOf.eq_1 a1) hok
  refine x_dload_n C dX2_bitsOf_0 rfl 0 rfl ?_
  refine x_dstore_n (lv' := [(0, .double a1), (2, .double a1)]) C dX2_bitsOf_1 rfl (by decide) [1, 0] rfl ?_
  refine x_ldc2 (v := (1023 : Int64)) C kc_X2_bitsOf_236 dX2_bitsOf_2 ?_
  refine x_lstore (lv' := [(0, .double a1), (2, .double a1), (4, .long (1023 : Int64))]) C dX2_bitsOf_5 (by decide) [1, 2, 0] rfl ?_
  refine x_iconst (v := (0 : Int32)) C dX2_bitsOf_7 (by decide) ?_
  refine x_istore (lv' := [(0, .double a1), (2, .double a1), (4, .long (1023 : Int64)), (6, .int (0 : Int32))]) C dX2_bitsOf_8 (by decide) [1, 2, 3, 0] rfl ?_
  have s1 := And.left hok
  have hok := And.right hok
  refine lp_h_bitsOf_10 C hq m h a1 400 ((a1, (1023 : Int64), (0 : Int32))) s1 (fun z2 hz2 => ?_)
  have hf := hf.trans (g_let_eq hz2.symm)
  have hok := g_let_p hz2.symm hok
  refine x_lload C dX2_bitsOf_44 2 rfl ?_
  refine x_bipush (v := (52 : Int32)) C dX2_bitsOf_46 (by decide) ?_
  refine x_lshl C dX2_bitsOf_48 rfl ?_
  refine x_dload_n C dX2_bitsOf_49 rfl 1 rfl ?_
  refine x_dconst1 C dX2_bitsOf_50 ?_
  have s3 := And.left hok
  have hok := And.right hok
  refine x_dsub C dX2_bitsOf_51 s3 ?_
  refine x_ldc2d (v := (4841369599423283200 : UInt64)) C kc_X2_bitsOf_240 dX2_bitsOf_52 ?_
  have s4 := And.left hok
  have hok := And.right hok
  refine x_dmul C dX2_bitsOf_55 s4 ?_
  refine x_d2l C dX2_bitsOf_56 ?_
  refine x_ladd C dX2_bitsOf_57 ?_
  exact g_lret C hr dX2_bitsOf_58 hf.symm rfl rfl
def shH : List gC := [.inr (.inl (2, [.inl 4, .inl 20, .inl 1, .inr (some false), .inl 2, .inr (some false), .inl 3])), .inr (.inr (.inl [some 36, some 52, some 68, some 84, some 100, some 116])), .inl 60, .inr (.inl (0, [.inr (some false), .inr (some false), .inr (some false), .inr (some false)])), .inr (.inl (1, [.inl 5, .inl 6, .inl 7, .inl 8, .inl 9, .inl 10, .inl 11, .inl 12, .inl 13, .inl 14, .inl 15, .inl 16, .inl 17, .inl 18, .inl 19, .inr (some false), .inr (some false)])), .inl 40, .inl 40, .inl 40, .inl 40, .inl 40, .inl 96, .inl 12, .inl 12, .inl 12, .inl 12, .inl 12, .inl 5, .inl 5, .inl 5, .inl 2, .inr (.inl (1, [.inl 21, .inl 22, .inl 23, .inl 24, .inl 25, .inl 26, .inl 27, .inl 28, .inl 29, .inl 30, .inl 31, .inl 32, .inl 33, .inl 34, .inl 35, .inr (some false), .inr (some false)])), .inl 40, .inl 40, .inl 40, .inl 40, .inl 40, .inl 96, .inl 12, .inl 12, .inl 12, .inl 12, .inl 12, .inl 5, .inl 5, .inl 5, .inl 2, .inr (.inl (1, [.inl 37, .inl 38, .inl 39, .inl 40, .inl 41, .inl 42, .inl 43, .inl 44, .inl 45, .inl 46, .inl 47, .inl 48, .inl 49, .inl 50, .inl 51, .inr (some false), .inr (some false)])), .inl 40, .inl 40, .inl 40, .inl 40, .inl 40, .inl 96, .inl 12, .inl 12, .inl 12, .inl 12, .inl 12, .inl 5, .inl 5, .inl 5, .inl 2, .inr (.inl (1, [.inl 53, .inl 54, .inl 55, .inl 56, .inl 57, .inl 58, .inl 59, .inl 60, .inl 61, .inl 62, .inl 63, .inl 64, .inl 65, .inl 66, .inl 67, .inr (some false), .inr (some false)])), .inl 40, .inl 40, .inl 40, .inl 40, .inl 40, .inl 96, .inl 12, .inl 12, .inl 12, .inl 12, .inl 12, .inl 5, .inl 5, .inl 5, .inl 2, .inr (.inl (1, [.inl 69, .inl 70, .inl 71, .inl 72, .inl 73, .inl 74, .inl 75, .inl 76, .inl 77, .inl 78, .inl 79, .inl 80, .inl 81, .inl 82, .inl 83, .inr (some false), .inr (some false)])), .inl 40, .inl 40, .inl 40, .inl 40, .inl 40, .inl 96, .inl 12, .inl 12, .inl 12, .inl 12, .inl 12, .inl 5, .inl 5, .inl 5, .inl 2, .inr (.inl (1, [.inl 85, .inl 86, .inl 87, .inl 88, .inl 89, .inl 90, .inl 91, .inl 92, .inl 93, .inl 94, .inl 95, .inl 96, .inl 97, .inl 98, .inl 99, .inr (some false), .inr (some false)])), .inl 40, .inl 40, .inl 40, .inl 40, .inl 40, .inl 96, .inl 12, .inl 12, .inl 12, .inl 12, .inl 12, .inl 5, .inl 5, .inl 5, .inl 2, .inr (.inl (1, [.inl 101, .inl 102, .inl 103, .inl 104, .inl 105, .inl 106, .inl 107, .inl 108, .inl 109, .inl 110, .inl 111, .inl 112, .inl 113, .inl 114, .inl 115, .inr (some false), .inr (some false)])), .inl 40, .inl 40, .inl 40, .inl 40, .inl 40, .inl 96, .inl 12, .inl 12, .inl 12, .inl 12, .inl 12, .inl 5, .inl 5, .inl 5, .inl 2, .inr (.inl (1, [.inl 117, .inl 118, .inl 119, .inl 120, .inl 121, .inl 122, .inl 123, .inl 124, .inl 125, .inl 126, .inl 127, .inl 128, .inl 129, .inl 130, .inl 131, .inr (some false), .inr (some false)])), .inl 40, .inl 40, .inl 40, .inl 40, .inl 40, .inl 96, .inl 12, .inl 12, .inl 12, .inl 12, .inl 12, .inl 5, .inl 5, .inl 5, .inl 2]
set_option maxRecDepth 20000 in
theorem gs_H_R_3 : gSub shH shR [3] := ⟨by decide, rfl⟩
set_option maxRecDepth 20000 in
theorem in_X2_readBuffer_2 : ∀ w ∈ u_ws RX2 TX2 7, w ∈ wsX2_readBuffer := by decide +kernel
set_option maxRecDepth 20000 in
theorem k_X2_readBuffer_27 : Cond.fieldLink RX2 27 "HintedPages" "codes" "[I" ∈ wsX2_readBuffer := by decide +kernel
set_option maxRecDepth 20000 in
theorem k_X2_readBuffer_31 : Cond.fieldLink RX2 31 "HintedPages" "length" "I" ∈ wsX2_readBuffer := by decide +kernel
set_option maxRecDepth 20000 in
theorem k_X2_readBuffer_37 : Cond.fieldLink RX2 37 "HintedPages" "reader" "LHintedPages$Reader;" ∈ wsX2_readBuffer := by decide +kernel
abbrev rm_h_readBuffer : Room := { frames := 4, cells := 0, slots := 0, locals := 86 }
noncomputable def L_h_readBuffer_9  (z : Int32 × gM × Nat) : Bool × (Int32 × gM × Nat) := (if (z.2.1 0 5) ≤ z.1 then (false, (z.1, z.2.1, 0)) else g_let (f_d_accepts (g_sel [3] z.2.1) (z.2.1 2 z.1.toNatClampNeg)) (fun z4 : Int32 × gM => g_let (g_mrg [3] z.2.1 z4.2) (fun z5 : gM => (if z4.1 = 0 then (false, (z.1, z5, 1)) else g_let ((z.1 + (1 : Int32))) (fun z7 : Int32 => (true, (z7, z5, 0)))))))
noncomputable def K_h_readBuffer_9  (z : Int32 × gM × Nat) : Prop := (if (z.2.1 0 5) ≤ z.1 then True else (vp_in z.1 60) ∧ ((o_d_accepts (g_sel [3] z.2.1) (z.2.1 2 z.1.toNatClampNeg)) ∧ (g_let (f_d_accepts (g_sel [3] z.2.1) (z.2.1 2 z.1.toNatClampNeg)) (fun z4 : Int32 × gM => g_let (g_mrg [3] z.2.1 z4.2) (fun z5 : gM => (if z4.1 = 0 then True else g_let ((z.1 + (1 : Int32))) (fun z7 : Int32 => True)))))))
set_option maxRecDepth 100000 in
set_option maxHeartbeats 4000000 in
theorem lp_h_readBuffer_9 {p : Program} {l : Launch} {e : Env} {s : State} {m9 : MethodId} {args : Array Value} {below : List Frame} {meth : Method} {c : Code} {G : gG} {A : Nat → Prop} {Q : State → Prop} {q : Nat → Nat} (C : xC p s m9 args meth c G A 2 cX2_readBuffer RX2 wsX2_readBuffer) (hq : gD A q shH.length) (h : gN) : ∀ (n : Nat) (z : Int32 × gM × Nat), rOk L_h_readBuffer_9 K_h_readBuffer_9 n z → (∀ z' : Int32 × gM × Nat, run L_h_readBuffer_9 n z = z' → z'.2.2 = (0 : Nat) → xJ p l e rm_h_readBuffer s m9 args below meth c G A 2 Q 0 0 shH q z'.2.1 h [(0, .ref (q 0)), (1, .int z'.1)] [] 41) → (∀ z' : Int32 × gM × Nat, run L_h_readBuffer_9 n z = z' → z'.2.2 = (1 : Nat) → xJ p l e rm_h_readBuffer s m9 args below meth c G A 2 Q 0 0 shH q z'.2.1 h [(0, .ref (q 0)), (1, .int z'.1)] [] 33) → xJ p l e rm_h_readBuffer s m9 args below meth c G A 2 Q 0 0 shH q z.2.1 h [(0, .ref (q 0)), (1, .int z.1)] [] 9 := by
  intro n
  induction n with
  | zero =>
    intro z hok _ _
    exact rOk_0 hok
  | succ n ih =>
    intro z hok K0 K1
    have hnx := rOk_2 hok
    have hok := rOk_1 hok
    have hf := L_h_readBuffer_9.eq_1 z
    have hok := Eq.mp (K_h_readBuffer_9.eq_1 z) hok
    refine x_iload_n C dX2_readBuffer_9 rfl 1 rfl ?_
    refine x_aload_n C dX2_readBuffer_10 rfl 0 rfl ?_
    refine x_get (v := .int (z.2.1 0 5)) C in_X2_readBuffer_2 0 rfl rfl 5 (by decide) k_X2_readBuffer_31 rfl rfl dX2_readBuffer_11 ?_
    refine x_icmp_ge (tgt := 41) C dX2_readBuffer_14 (by decide) (fun c1 => ?_) (fun c1 => ?_)
    · have hf := hf.trans (if_pos c1)
      have hok := g_ip c1 hok
      exact K0 ((z.1, z.2.1, 0)) (run_f hf) rfl
    · have hf := hf.trans (if_neg c1)
      have hok := g_in c1 hok
      refine x_aload_n C dX2_readBuffer_17 rfl 0 rfl ?_
      refine x_get (v := .ref (q 3)) C in_X2_readBuffer_2 0 rfl rfl 6 (by decide) k_X2_readBuffer_37 rfl rfl dX2_readBuffer_18 ?_
      refine x_aload_n C dX2_readBuffer_21 rfl 0 rfl ?_
      refine x_get (v := .ref (q 2)) C in_X2_readBuffer_2 0 rfl rfl 4 (by decide) k_X2_readBuffer_27 rfl rfl dX2_readBuffer_22 ?_
      refine x_iload_n C dX2_readBuffer_25 rfl 1 rfl ?_
      have s2 := And.left hok
      have hok := And.right hok
      refine x_iald (n := 60) (v := (z.2.1 2 z.1.toNatClampNeg)) C 2 rfl s2 rfl dX2_readBuffer_26 ?_
      have s3 := And.left hok
      have hok := And.right hok
      obtain ⟨z4, hz4⟩ : ∃ y9 : Int32 × gM, y9 = f_d_accepts (g_sel [3] z.2.1) (z.2.1 2 z.1.toNatClampNeg) := ⟨_, rfl⟩
      have hf := hf.trans (g_let_eq hz4)
      have hok := g_let_p hz4 hok
      have hmz4 : gMi l yX0_accepts wsX0_accepts rm_d_accepts G shR (g_sel [3] q) (g_sel [3] z.2.1) (g_sel [3] h) [.ref ((g_sel [3] q) 0), .int (z.2.1 2 z.1.toNatClampNeg)] z4.2 (g_sel [3] h) z4.1 := by rw [hz4]; exact c_d_accepts l G (g_sel [3] q) (g_sel [3] z.2.1) (g_sel [3] h) (z.2.1 2 z.1.toNatClampNeg) s3
      refine x_callVi (n := 1) C hq (gFr_sub gs_H_R_3) (hmz4) (cwV 1 C.2.2.2.2.2.1 gX2_readBuffer_X0_accepts rfl rfl rfl (by decide +kernel) ⟨Nat.le_of_ble_eq_true rfl, Nat.le_of_ble_eq_true rfl⟩) rfl rfl rfl rfl (Nat.le_of_ble_eq_true rfl) dX2_readBuffer_27 (Nat.zero_le _) (Nat.zero_le _) ?_
      obtain ⟨z5, hz5⟩ : ∃ y9 : gM, y9 = g_mrg [3] z.2.1 z4.2 := ⟨_, rfl⟩
      have hf := hf.trans (g_let_eq hz5)
      have hok := g_let_p hz5 hok
      refine x_mu hz5 (g_mrg_id gs_H_R_3.1) ?_
      refine x_if_ne (tgt := 35) C dX2_readBuffer_30 (by decide) (fun c6 => ?_) (fun c6 => ?_)
      · have hf := hf.trans (if_neg c6)
        have hok := g_in c6 hok
        obtain ⟨z7, hz7⟩ : ∃ y9 : Int32, y9 = (z.1 + (1 : Int32)) := ⟨_, rfl⟩
        have hf := hf.trans (g_let_eq hz7)
        have hok := g_let_p hz7 hok
        refine x_iinc (v := z7) (lv' := [(0, .ref (q 0)), (1, .int z7)]) C dX2_readBuffer_35 1 rfl hz7.symm (by decide) [1, 0] rfl ?_
        refine x_goto (tgt := 9) C dX2_readBuffer_38 (by decide) ?_
        exact ih ((z7, z5, 0)) (rOk_t hnx hf) (fun z' hz => K0 z' ((run_t hf).trans hz)) (fun z' hz => K1 z' ((run_t hf).trans hz))
      · have hf := hf.trans (if_pos c6)
        have hok := g_ip c6 hok
        exact K1 ((z.1, z5, 1)) (run_f hf) rfl
noncomputable def f_h_readBuffer (m : gM) : Int32 × gM := g_let (f_d_restart (g_sel [3] m)) (fun z2 : gM => g_let (g_mrg [3] m z2) (fun z3 : gM => g_let (run (L_h_readBuffer_9) 400 (((0 : Int32), z3, 0))) (fun z5 : Int32 × gM × Nat => (if z5.2.2 = (0 : Nat) then ((z5.2.1 0 5), z5.2.1) else (z5.1, z5.2.1)))))
noncomputable def o_h_readBuffer (m : gM) : Prop := (o_d_restart (g_sel [3] m)) ∧ (g_let (f_d_restart (g_sel [3] m)) (fun z2 : gM => g_let (g_mrg [3] m z2) (fun z3 : gM => (rOk (L_h_readBuffer_9) (K_h_readBuffer_9) 400 (((0 : Int32), z3, 0))) ∧ (g_let (run (L_h_readBuffer_9) 400 (((0 : Int32), z3, 0))) (fun z5 : Int32 × gM × Nat => (if z5.2.2 = (0 : Nat) then True else True))))))
set_option maxRecDepth 100000 in
set_option maxHeartbeats 4000000 in
theorem c_h_readBuffer (l : Launch) (G : gG) (q : Nat → Nat) (m : gM) (h : gN) (hok : o_h_readBuffer m) : gMi l yX2_readBuffer wsX2_readBuffer rm_h_readBuffer G shH q m h [.ref (q 0)] ((f_h_readBuffer m).2) h ((f_h_readBuffer m).1) := by
  intro sz
  refine g_met (cc := cX2_readBuffer) (maxL := 2) (ret := (some .int)) (own := RX2) (Qc := fun sz => gQi G shH q ((f_h_readBuffer m).2) h sz ((f_h_readBuffer m).1)) (by decide) rfl rfl (Nat.le_of_ble_eq_true rfl) (fun p e s m9 below meth c C hq hr => ?_)
  refine x_lv (lv' := [(0, .ref (q 0))]) [0] rfl ?_
  have hf := f_h_readBuffer.eq_1 m
  have hok := Eq.mp (o_h_readBuffer.eq_1 m) hok
  refine x_aload_n C dX2_readBuffer_0 rfl 0 rfl ?_
  refine x_get (v := .ref (q 3)) C in_X2_readBuffer_2 0 rfl rfl 6 (by decide) k_X2_readBuffer_37 rfl rfl dX2_readBuffer_1 ?_
  have s1 := And.left hok
  have hok := And.right hok
  obtain ⟨z2, hz2⟩ : ∃ y9 : gM, y9 = f_d_restart (g_sel [3] m) := ⟨_, rfl⟩
  have hf := hf.trans (g_let_eq hz2)
  have hok := g_let_p hz2 hok
  have hmz2 : gMv l yX0_restart wsX0_restart rm_d_restart G shR (g_sel [3] q) (g_sel [3] m) (g_sel [3] h) [.ref ((g_sel [3] q) 0)] z2 (g_sel [3] h) := by rw [hz2]; exact c_d_restart l G (g_sel [3] q) (g_sel [3] m) (g_sel [3] h) s1
  refine x_callVv (n := 0) C hq (gFr_sub gs_H_R_3) (hmz2) (cwV 0 C.2.2.2.2.2.1 gX2_readBuffer_X0_restart rfl rfl rfl (by decide +kernel) ⟨Nat.le_of_ble_eq_true rfl, Nat.le_of_ble_eq_true rfl⟩) rfl rfl rfl rfl (Nat.le_of_ble_eq_true rfl) dX2_readBuffer_4 (Nat.zero_le _) (Nat.zero_le _) ?_
  obtain ⟨z3, hz3⟩ : ∃ y9 : gM, y9 = g_mrg [3] m z2 := ⟨_, rfl⟩
  have hf := hf.trans (g_let_eq hz3)
  have hok := g_let_p hz3 hok
  refine x_mu hz3 (g_mrg_id gs_H_R_3.1) ?_
  refine x_iconst (v := (0 : Int32)) C dX2_readBuffer_7 (by decide) ?_
  refine x_istore_n (lv' := [(0, .ref (q 0)), (1, .int (0 : Int32))]) C dX2_readBuffer_8 rfl (by decide) [1, 0] rfl ?_
  have s4 := And.left hok
  have hok := And.right hok
  refine lp_h_readBuffer_9 C hq h 400 (((0 : Int32), z3, 0)) s4 (fun z5 hz5 hc => ?_) (fun z5 hz5 hc => ?_)
  · have hf := hf.trans (g_let_eq hz5.symm)
    have hok := g_let_p hz5.symm hok
    have hf := hf.trans (if_pos hc)
    have hok := g_ip hc hok
    refine x_aload_n C dX2_readBuffer_41 rfl 0 rfl ?_
    refine x_get (v := .int (z5.2.1 0 5)) C in_X2_readBuffer_2 0 rfl rfl 5 (by decide) k_X2_readBuffer_31 rfl rfl dX2_readBuffer_42 ?_
    exact g_iret C hr rfl dX2_readBuffer_45 (congrArg (fun z => z.1) hf).symm (congrArg (fun z => z.2) hf).symm rfl
  · have hf := hf.trans (g_let_eq hz5.symm)
    have hok := g_let_p hz5.symm hok
    have hf := hf.trans (if_neg (show ¬ z5.2.2 = (0 : Nat) from by rw [hc]; decide))
    have hok := g_in (show ¬ z5.2.2 = (0 : Nat) from by rw [hc]; decide) hok
    refine x_iload_n C dX2_readBuffer_33 rfl 1 rfl ?_
    exact g_iret C hr rfl dX2_readBuffer_34 (congrArg (fun z => z.1) hf).symm (congrArg (fun z => z.2) hf).symm rfl
set_option maxRecDepth 20000 in
theorem gs_H_SS_20_21 : gSub shH shSS [20, 21, 22, 23, 24, 25, 26, 27, 28, 29, 30, 31, 32, 33, 34, 35, 4, 5, 6, 7, 8, 9, 10, 11, 12, 13, 14, 15, 16, 17, 18, 19] := ⟨by decide, rfl⟩
set_option maxRecDepth 20000 in
theorem gs_H_S_20_21 : gSub shH shS [20, 21, 22, 23, 24, 25, 26, 27, 28, 29, 30, 31, 32, 33, 34, 35] := ⟨by decide, rfl⟩
set_option maxRecDepth 20000 in
theorem in_X2_tryWriting_2 : ∀ w ∈ u_ws RX2 TX2 7, w ∈ wsX2_tryWriting := by decide +kernel
set_option maxRecDepth 20000 in
theorem k_X2_tryWriting_10 : Cond.fieldLink RX2 10 "HintedPages" "store" "LHintedPages$Store;" ∈ wsX2_tryWriting := by decide +kernel
set_option maxRecDepth 20000 in
theorem k_X2_tryWriting_16 : Cond.fieldLink RX2 16 "HintedPages" "trial" "LHintedPages$Store;" ∈ wsX2_tryWriting := by decide +kernel
abbrev rm_h_tryWriting : Room := { frames := 4, cells := 0, slots := 0, locals := 93 }
noncomputable def f_h_tryWriting (m : gM) (a1 : Int32) (a2 : Int32) : gM := g_let (f_s_becomeLike (g_sel [20, 21, 22, 23, 24, 25, 26, 27, 28, 29, 30, 31, 32, 33, 34, 35, 4, 5, 6, 7, 8, 9, 10, 11, 12, 13, 14, 15, 16, 17, 18, 19] m)) (fun z2 : gM => g_let (g_mrg [20, 21, 22, 23, 24, 25, 26, 27, 28, 29, 30, 31, 32, 33, 34, 35, 4, 5, 6, 7, 8, 9, 10, 11, 12, 13, 14, 15, 16, 17, 18, 19] m z2) (fun z3 : gM => g_let (f_s_writePage (g_sel [20, 21, 22, 23, 24, 25, 26, 27, 28, 29, 30, 31, 32, 33, 34, 35] z3) a1 a2) (fun z5 : gM => g_let (g_mrg [20, 21, 22, 23, 24, 25, 26, 27, 28, 29, 30, 31, 32, 33, 34, 35] z3 z5) (fun z6 : gM => z6))))
noncomputable def o_h_tryWriting (m : gM) (a1 : Int32) (a2 : Int32) : Prop := (o_s_becomeLike (g_sel [20, 21, 22, 23, 24, 25, 26, 27, 28, 29, 30, 31, 32, 33, 34, 35, 4, 5, 6, 7, 8, 9, 10, 11, 12, 13, 14, 15, 16, 17, 18, 19] m)) ∧ (g_let (f_s_becomeLike (g_sel [20, 21, 22, 23, 24, 25, 26, 27, 28, 29, 30, 31, 32, 33, 34, 35, 4, 5, 6, 7, 8, 9, 10, 11, 12, 13, 14, 15, 16, 17, 18, 19] m)) (fun z2 : gM => g_let (g_mrg [20, 21, 22, 23, 24, 25, 26, 27, 28, 29, 30, 31, 32, 33, 34, 35, 4, 5, 6, 7, 8, 9, 10, 11, 12, 13, 14, 15, 16, 17, 18, 19] m z2) (fun z3 : gM => (o_s_writePage (g_sel [20, 21, 22, 23, 24, 25, 26, 27, 28, 29, 30, 31, 32, 33, 34, 35] z3) a1 a2) ∧ (g_let (f_s_writePage (g_sel [20, 21, 22, 23, 24, 25, 26, 27, 28, 29, 30, 31, 32, 33, 34, 35] z3) a1 a2) (fun z5 : gM => g_let (g_mrg [20, 21, 22, 23, 24, 25, 26, 27, 28, 29, 30, 31, 32, 33, 34, 35] z3 z5) (fun z6 : gM => True))))))
set_option maxRecDepth 100000 in
set_option maxHeartbeats 4000000 in
theorem c_h_tryWriting (l : Launch) (G : gG) (q : Nat → Nat) (m : gM) (h : gN) (a1 : Int32) (a2 : Int32) (hok : o_h_tryWriting m a1 a2) : gMv l yX2_tryWriting wsX2_tryWriting rm_h_tryWriting G shH q m h [.ref (q 0), .int a1, .int a2] (f_h_tryWriting m a1 a2) h := by
  intro sz
  refine g_met (cc := cX2_tryWriting) (maxL := 3) (ret := none) (own := RX2) (Qc := fun sz => gQv G shH q (f_h_tryWriting m a1 a2) h sz) (by decide) rfl rfl (Nat.le_of_ble_eq_true rfl) (fun p e s m9 below meth c C hq hr => ?_)
  refine x_lv (lv' := [(0, .ref (q 0)), (1, .int a1), (2, .int a2)]) [0, 1, 2] rfl ?_
  have hf := f_h_tryWriting.eq_1 m a1 a2
  have hok := Eq.mp (o_h_tryWriting.eq_1 m a1 a2) hok
  refine x_aload_n C dX2_tryWriting_0 rfl 0 rfl ?_
  refine x_get (v := .ref (q 20)) C in_X2_tryWriting_2 0 rfl rfl 1 (by decide) k_X2_tryWriting_16 rfl rfl dX2_tryWriting_1 ?_
  refine x_aload_n C dX2_tryWriting_4 rfl 0 rfl ?_
  refine x_get (v := .ref (q 4)) C in_X2_tryWriting_2 0 rfl rfl 0 (by decide) k_X2_tryWriting_10 rfl rfl dX2_tryWriting_5 ?_
  have s1 := And.left hok
  have hok := And.right hok
  obtain ⟨z2, hz2⟩ : ∃ y9 : gM, y9 = f_s_becomeLike (g_sel [20, 21, 22, 23, 24, 25, 26, 27, 28, 29, 30, 31, 32, 33, 34, 35, 4, 5, 6, 7, 8, 9, 10, 11, 12, 13, 14, 15, 16, 17, 18, 19] m) := ⟨_, rfl⟩
  have hf := hf.trans (g_let_eq hz2)
  have hok := g_let_p hz2 hok
  have hmz2 : gMv l yX1_becomeLike wsX1_becomeLike rm_s_becomeLike G shSS (g_sel [20, 21, 22, 23, 24, 25, 26, 27, 28, 29, 30, 31, 32, 33, 34, 35, 4, 5, 6, 7, 8, 9, 10, 11, 12, 13, 14, 15, 16, 17, 18, 19] q) (g_sel [20, 21, 22, 23, 24, 25, 26, 27, 28, 29, 30, 31, 32, 33, 34, 35, 4, 5, 6, 7, 8, 9, 10, 11, 12, 13, 14, 15, 16, 17, 18, 19] m) (g_sel [20, 21, 22, 23, 24, 25, 26, 27, 28, 29, 30, 31, 32, 33, 34, 35, 4, 5, 6, 7, 8, 9, 10, 11, 12, 13, 14, 15, 16, 17, 18, 19] h) [.ref ((g_sel [20, 21, 22, 23, 24, 25, 26, 27, 28, 29, 30, 31, 32, 33, 34, 35, 4, 5, 6, 7, 8, 9, 10, 11, 12, 13, 14, 15, 16, 17, 18, 19] q) 0), .ref ((g_sel [20, 21, 22, 23, 24, 25, 26, 27, 28, 29, 30, 31, 32, 33, 34, 35, 4, 5, 6, 7, 8, 9, 10, 11, 12, 13, 14, 15, 16, 17, 18, 19] q) 16)] z2 (g_sel [20, 21, 22, 23, 24, 25, 26, 27, 28, 29, 30, 31, 32, 33, 34, 35, 4, 5, 6, 7, 8, 9, 10, 11, 12, 13, 14, 15, 16, 17, 18, 19] h) := by rw [hz2]; exact c_s_becomeLike l G (g_sel [20, 21, 22, 23, 24, 25, 26, 27, 28, 29, 30, 31, 32, 33, 34, 35, 4, 5, 6, 7, 8, 9, 10, 11, 12, 13, 14, 15, 16, 17, 18, 19] q) (g_sel [20, 21, 22, 23, 24, 25, 26, 27, 28, 29, 30, 31, 32, 33, 34, 35, 4, 5, 6, 7, 8, 9, 10, 11, 12, 13, 14, 15, 16, 17, 18, 19] m) (g_sel [20, 21, 22, 23, 24, 25, 26, 27, 28, 29, 30, 31, 32, 33, 34, 35, 4, 5, 6, 7, 8, 9, 10, 11, 12, 13, 14, 15, 16, 17, 18, 19] h) s1
  refine x_callVv (n := 1) C hq (gFr_sub gs_H_SS_20_21) (hmz2) (cwV 1 C.2.2.2.2.2.1 gX2_tryWriting_X1_becomeLike rfl rfl rfl (by decide +kernel) ⟨Nat.le_of_ble_eq_true rfl, Nat.le_of_ble_eq_true rfl⟩) rfl rfl rfl rfl (Nat.le_of_ble_eq_true rfl) dX2_tryWriting_8 (Nat.zero_le _) (Nat.zero_le _) ?_
  obtain ⟨z3, hz3⟩ : ∃ y9 : gM, y9 = g_mrg [20, 21, 22, 23, 24, 25, 26, 27, 28, 29, 30, 31, 32, 33, 34, 35, 4, 5, 6, 7, 8, 9, 10, 11, 12, 13, 14, 15, 16, 17, 18, 19] m z2 := ⟨_, rfl⟩
  have hf := hf.trans (g_let_eq hz3)
  have hok := g_let_p hz3 hok
  refine x_mu hz3 (g_mrg_id gs_H_SS_20_21.1) ?_
  refine x_aload_n C dX2_tryWriting_11 rfl 0 rfl ?_
  refine x_get (v := .ref (q 20)) C in_X2_tryWriting_2 0 rfl rfl 1 (by decide) k_X2_tryWriting_16 rfl rfl dX2_tryWriting_12 ?_
  refine x_iload_n C dX2_tryWriting_15 rfl 1 rfl ?_
  refine x_iload_n C dX2_tryWriting_16 rfl 2 rfl ?_
  have s4 := And.left hok
  have hok := And.right hok
  obtain ⟨z5, hz5⟩ : ∃ y9 : gM, y9 = f_s_writePage (g_sel [20, 21, 22, 23, 24, 25, 26, 27, 28, 29, 30, 31, 32, 33, 34, 35] z3) a1 a2 := ⟨_, rfl⟩
  have hf := hf.trans (g_let_eq hz5)
  have hok := g_let_p hz5 hok
  have hmz5 : gMv l yX1_writePage wsX1_writePage rm_s_writePage G shS (g_sel [20, 21, 22, 23, 24, 25, 26, 27, 28, 29, 30, 31, 32, 33, 34, 35] q) (g_sel [20, 21, 22, 23, 24, 25, 26, 27, 28, 29, 30, 31, 32, 33, 34, 35] z3) (g_sel [20, 21, 22, 23, 24, 25, 26, 27, 28, 29, 30, 31, 32, 33, 34, 35] h) [.ref ((g_sel [20, 21, 22, 23, 24, 25, 26, 27, 28, 29, 30, 31, 32, 33, 34, 35] q) 0), .int a1, .int a2] z5 (g_sel [20, 21, 22, 23, 24, 25, 26, 27, 28, 29, 30, 31, 32, 33, 34, 35] h) := by rw [hz5]; exact c_s_writePage l G (g_sel [20, 21, 22, 23, 24, 25, 26, 27, 28, 29, 30, 31, 32, 33, 34, 35] q) (g_sel [20, 21, 22, 23, 24, 25, 26, 27, 28, 29, 30, 31, 32, 33, 34, 35] z3) (g_sel [20, 21, 22, 23, 24, 25, 26, 27, 28, 29, 30, 31, 32, 33, 34, 35] h) a1 a2 s4
  refine x_callVv (n := 2) C hq (gFr_sub gs_H_S_20_21) (hmz5) (cwV 2 C.2.2.2.2.2.1 gX2_tryWriting_X1_writePage rfl rfl rfl (by decide +kernel) ⟨Nat.le_of_ble_eq_true rfl, Nat.le_of_ble_eq_true rfl⟩) rfl rfl rfl rfl (Nat.le_of_ble_eq_true rfl) dX2_tryWriting_17 (Nat.zero_le _) (Nat.zero_le _) ?_
  obtain ⟨z6, hz6⟩ : ∃ y9 : gM, y9 = g_mrg [20, 21, 22, 23, 24, 25, 26, 27, 28, 29, 30, 31, 32, 33, 34, 35] z3 z5 := ⟨_, rfl⟩
  have hf := hf.trans (g_let_eq hz6)
  have hok := g_let_p hz6 hok
  refine x_mu hz6 (g_mrg_id gs_H_S_20_21.1) ?_
  exact g_vret C hr dX2_tryWriting_20 hf.symm rfl
set_option maxRecDepth 20000 in
theorem gs_H_S_4_5 : gSub shH shS [4, 5, 6, 7, 8, 9, 10, 11, 12, 13, 14, 15, 16, 17, 18, 19] := ⟨by decide, rfl⟩
set_option maxRecDepth 20000 in
theorem in_X2_forecast_2 : ∀ w ∈ u_ws RX2 TX2 7, w ∈ wsX2_forecast := by decide +kernel
set_option maxRecDepth 20000 in
theorem k_X2_forecast_10 : Cond.fieldLink RX2 10 "HintedPages" "store" "LHintedPages$Store;" ∈ wsX2_forecast := by decide +kernel
set_option maxRecDepth 20000 in
theorem k_X2_forecast_16 : Cond.fieldLink RX2 16 "HintedPages" "trial" "LHintedPages$Store;" ∈ wsX2_forecast := by decide +kernel
abbrev rm_h_forecast : Room := { frames := 2, cells := 0, slots := 0, locals := 45 }
noncomputable def f_h_forecast (m : gM) (a1 : Int32) (a2 : Int32) : Int32 := (if a2 = (0 : Int32) then ((f_s_copies (g_sel [20, 21, 22, 23, 24, 25, 26, 27, 28, 29, 30, 31, 32, 33, 34, 35] m)) - (f_s_copies (g_sel [4, 5, 6, 7, 8, 9, 10, 11, 12, 13, 14, 15, 16, 17, 18, 19] m))) else (if a2 = (1 : Int32) then (f_s_blockOf (g_sel [20, 21, 22, 23, 24, 25, 26, 27, 28, 29, 30, 31, 32, 33, 34, 35] m) a1) else ((f_s_erasures (g_sel [20, 21, 22, 23, 24, 25, 26, 27, 28, 29, 30, 31, 32, 33, 34, 35] m)) - (f_s_erasures (g_sel [4, 5, 6, 7, 8, 9, 10, 11, 12, 13, 14, 15, 16, 17, 18, 19] m)))))
noncomputable def o_h_forecast (m : gM) (a1 : Int32) (a2 : Int32) : Prop := (if a2 = (0 : Int32) then (o_s_copies (g_sel [20, 21, 22, 23, 24, 25, 26, 27, 28, 29, 30, 31, 32, 33, 34, 35] m)) ∧ ((o_s_copies (g_sel [4, 5, 6, 7, 8, 9, 10, 11, 12, 13, 14, 15, 16, 17, 18, 19] m)) ∧ (True)) else (if a2 = (1 : Int32) then (o_s_blockOf (g_sel [20, 21, 22, 23, 24, 25, 26, 27, 28, 29, 30, 31, 32, 33, 34, 35] m) a1) ∧ (True) else (o_s_erasures (g_sel [20, 21, 22, 23, 24, 25, 26, 27, 28, 29, 30, 31, 32, 33, 34, 35] m)) ∧ ((o_s_erasures (g_sel [4, 5, 6, 7, 8, 9, 10, 11, 12, 13, 14, 15, 16, 17, 18, 19] m)) ∧ (True))))
set_option maxRecDepth 100000 in
set_option maxHeartbeats 4000000 in
theorem c_h_forecast (l : Launch) (G : gG) (q : Nat → Nat) (m : gM) (h : gN) (a1 : Int32) (a2 : Int32) (hok : o_h_forecast m a1 a2) : gMi l yX2_forecast wsX2_forecast rm_h_forecast G shH q m h [.ref (q 0), .int a1, .int a2] m h (f_h_forecast m a1 a2) := by
  intro sz
  refine g_met (cc := cX2_forecast) (maxL := 3) (ret := (some .int)) (own := RX2) (Qc := fun sz => gQi G shH q m h sz (f_h_forecast m a1 a2)) (by decide) rfl rfl (Nat.le_of_ble_eq_true rfl) (fun p e s m9 below meth c C hq hr => ?_)
  refine x_lv (lv' := [(0, .ref (q 0)), (1, .int a1), (2, .int a2)]) [0, 1, 2] rfl ?_
  have hf := f_h_forecast.eq_1 m a1 a2
  have hok := Eq.mp (o_h_forecast.eq_1 m a1 a2) hok
  refine x_iload_n C dX2_forecast_0 rfl 2 rfl ?_
  by_cases c1 : a2 = (0 : Int32)
  · have hf := hf.trans (if_pos c1)
    have hok := g_ip c1 hok
    refine x_look (tgt := 28) (off := 27) C dX2_forecast_1 rfl (by rw [c1]; rfl) (by decide) ?_
    refine x_aload_n C dX2_forecast_28 rfl 0 rfl ?_
    refine x_get (v := .ref (q 20)) C in_X2_forecast_2 0 rfl rfl 1 (by decide) k_X2_forecast_16 rfl rfl dX2_forecast_29 ?_
    have s2 := And.left hok
    have hok := And.right hok
    refine x_callVi (n := 0) C hq (gFr_pure gs_H_S_20_21) (c_s_copies l G (g_sel [20, 21, 22, 23, 24, 25, 26, 27, 28, 29, 30, 31, 32, 33, 34, 35] q) (g_sel [20, 21, 22, 23, 24, 25, 26, 27, 28, 29, 30, 31, 32, 33, 34, 35] m) (g_sel [20, 21, 22, 23, 24, 25, 26, 27, 28, 29, 30, 31, 32, 33, 34, 35] h) s2) (cwV 0 C.2.2.2.2.2.1 gX2_forecast_X1_copies rfl rfl rfl (by decide +kernel) ⟨Nat.le_of_ble_eq_true rfl, Nat.le_of_ble_eq_true rfl⟩) rfl rfl rfl rfl (Nat.le_of_ble_eq_true rfl) dX2_forecast_32 (Nat.zero_le _) (Nat.zero_le _) ?_
    refine x_aload_n C dX2_forecast_35 rfl 0 rfl ?_
    refine x_get (v := .ref (q 4)) C in_X2_forecast_2 0 rfl rfl 0 (by decide) k_X2_forecast_10 rfl rfl dX2_forecast_36 ?_
    have s3 := And.left hok
    have hok := And.right hok
    refine x_callVi (n := 0) C hq (gFr_pure gs_H_S_4_5) (c_s_copies l G (g_sel [4, 5, 6, 7, 8, 9, 10, 11, 12, 13, 14, 15, 16, 17, 18, 19] q) (g_sel [4, 5, 6, 7, 8, 9, 10, 11, 12, 13, 14, 15, 16, 17, 18, 19] m) (g_sel [4, 5, 6, 7, 8, 9, 10, 11, 12, 13, 14, 15, 16, 17, 18, 19] h) s3) (cwV 0 C.2.2.2.2.2.1 gX2_forecast_X1_copies rfl rfl rfl (by decide +kernel) ⟨Nat.le_of_ble_eq_true rfl, Nat.le_of_ble_eq_true rfl⟩) rfl rfl rfl rfl (Nat.le_of_ble_eq_true rfl) dX2_forecast_39 (Nat.zero_le _) (Nat.zero_le _) ?_
    refine x_isub C dX2_forecast_42 ?_
    exact g_iret C hr rfl dX2_forecast_43 hf.symm rfl rfl
  · have hf := hf.trans (if_neg c1)
    have hok := g_in c1 hok
    by_cases c4 : a2 = (1 : Int32)
    · have hf := hf.trans (if_pos c4)
      have hok := g_ip c4 hok
      refine x_look (tgt := 44) (off := 43) C dX2_forecast_1 rfl (by rw [c4]; rfl) (by decide) ?_
      refine x_aload_n C dX2_forecast_44 rfl 0 rfl ?_
      refine x_get (v := .ref (q 20)) C in_X2_forecast_2 0 rfl rfl 1 (by decide) k_X2_forecast_16 rfl rfl dX2_forecast_45 ?_
      refine x_iload_n C dX2_forecast_48 rfl 1 rfl ?_
      have s5 := And.left hok
      have hok := And.right hok
      refine x_callVi (n := 1) C hq (gFr_pure gs_H_S_20_21) (c_s_blockOf l G (g_sel [20, 21, 22, 23, 24, 25, 26, 27, 28, 29, 30, 31, 32, 33, 34, 35] q) (g_sel [20, 21, 22, 23, 24, 25, 26, 27, 28, 29, 30, 31, 32, 33, 34, 35] m) (g_sel [20, 21, 22, 23, 24, 25, 26, 27, 28, 29, 30, 31, 32, 33, 34, 35] h) a1 s5) (cwV 1 C.2.2.2.2.2.1 gX2_forecast_X1_blockOf rfl rfl rfl (by decide +kernel) ⟨Nat.le_of_ble_eq_true rfl, Nat.le_of_ble_eq_true rfl⟩) rfl rfl rfl rfl (Nat.le_of_ble_eq_true rfl) dX2_forecast_49 (Nat.zero_le _) (Nat.zero_le _) ?_
      exact g_iret C hr rfl dX2_forecast_52 hf.symm rfl rfl
    · have hf := hf.trans (if_neg c4)
      have hok := g_in c4 hok
      refine x_look (tgt := 53) (off := 52) C dX2_forecast_1 rfl (by show Op.lookupswitch.offset [((0 : Int), (27 : Int)), ((1 : Int), (43 : Int))] _ _ = _; rw [lv_osw (a := 0) c1 rfl, lv_osw (a := 1) c4 rfl]; rfl) (by decide) ?_
      refine x_aload_n C dX2_forecast_53 rfl 0 rfl ?_
      refine x_get (v := .ref (q 20)) C in_X2_forecast_2 0 rfl rfl 1 (by decide) k_X2_forecast_16 rfl rfl dX2_forecast_54 ?_
      have s6 := And.left hok
      have hok := And.right hok
      refine x_callVi (n := 0) C hq (gFr_pure gs_H_S_20_21) (c_s_erasures l G (g_sel [20, 21, 22, 23, 24, 25, 26, 27, 28, 29, 30, 31, 32, 33, 34, 35] q) (g_sel [20, 21, 22, 23, 24, 25, 26, 27, 28, 29, 30, 31, 32, 33, 34, 35] m) (g_sel [20, 21, 22, 23, 24, 25, 26, 27, 28, 29, 30, 31, 32, 33, 34, 35] h) s6) (cwV 0 C.2.2.2.2.2.1 gX2_forecast_X1_erasures rfl rfl rfl (by decide +kernel) ⟨Nat.le_of_ble_eq_true rfl, Nat.le_of_ble_eq_true rfl⟩) rfl rfl rfl rfl (Nat.le_of_ble_eq_true rfl) dX2_forecast_57 (Nat.zero_le _) (Nat.zero_le _) ?_
      refine x_aload_n C dX2_forecast_60 rfl 0 rfl ?_
      refine x_get (v := .ref (q 4)) C in_X2_forecast_2 0 rfl rfl 0 (by decide) k_X2_forecast_10 rfl rfl dX2_forecast_61 ?_
      have s7 := And.left hok
      have hok := And.right hok
      refine x_callVi (n := 0) C hq (gFr_pure gs_H_S_4_5) (c_s_erasures l G (g_sel [4, 5, 6, 7, 8, 9, 10, 11, 12, 13, 14, 15, 16, 17, 18, 19] q) (g_sel [4, 5, 6, 7, 8, 9, 10, 11, 12, 13, 14, 15, 16, 17, 18, 19] m) (g_sel [4, 5, 6, 7, 8, 9, 10, 11, 12, 13, 14, 15, 16, 17, 18, 19] h) s7) (cwV 0 C.2.2.2.2.2.1 gX2_forecast_X1_erasures rfl rfl rfl (by decide +kernel) ⟨Nat.le_of_ble_eq_true rfl, Nat.le_of_ble_eq_true rfl⟩) rfl rfl rfl rfl (Nat.le_of_ble_eq_true rfl) dX2_forecast_64 (Nat.zero_le _) (Nat.zero_le _) ?_
      refine x_isub C dX2_forecast_67 ?_
      exact g_iret C hr rfl dX2_forecast_68 hf.symm rfl rfl
set_option maxRecDepth 20000 in
theorem in_X2_copiesOfRewriting_1 : ∀ w ∈ u_ws RX1 TX1 17, w ∈ wsX2_copiesOfRewriting := by decide +kernel
set_option maxRecDepth 20000 in
theorem in_X2_copiesOfRewriting_2 : ∀ w ∈ u_ws RX2 TX2 7, w ∈ wsX2_copiesOfRewriting := by decide +kernel
set_option maxRecDepth 20000 in
theorem k_X2_copiesOfRewriting_10 : Cond.fieldLink RX2 10 "HintedPages" "store" "LHintedPages$Store;" ∈ wsX2_copiesOfRewriting := by decide +kernel
set_option maxRecDepth 20000 in
theorem k_X2_copiesOfRewriting_112 : Cond.fieldLink RX2 112 "HintedPages$Store" "settings" "[I" ∈ wsX2_copiesOfRewriting := by decide +kernel
set_option maxRecDepth 20000 in
theorem k_X2_copiesOfRewriting_16 : Cond.fieldLink RX2 16 "HintedPages" "trial" "LHintedPages$Store;" ∈ wsX2_copiesOfRewriting := by decide +kernel
set_option maxRecDepth 20000 in
theorem k_X2_copiesOfRewriting_83 : Cond.fieldLink RX2 83 "HintedPages$Store" "hintOfPage" "[I" ∈ wsX2_copiesOfRewriting := by decide +kernel
abbrev rm_h_copiesOfRewriting : Room := { frames := 4, cells := 0, slots := 0, locals := 93 }
noncomputable def L_h_copiesOfRewriting_31 (x1 : Int32) (x2 : Int32) (x3 : Int32) (z : Int32 × gM) : Bool × (Int32 × gM) := (if (40 : Int32) ≤ z.1 then (false, (z.1, z.2)) else (if (f_s_isWritten (g_sel [20, 21, 22, 23, 24, 25, 26, 27, 28, 29, 30, 31, 32, 33, 34, 35] z.2) z.1) = 0 then g_let (f_s_writePage (g_sel [20, 21, 22, 23, 24, 25, 26, 27, 28, 29, 30, 31, 32, 33, 34, 35] z.2) z.1 (0 : Int32)) (fun z5 : gM => g_let (g_mrg [20, 21, 22, 23, 24, 25, 26, 27, 28, 29, 30, 31, 32, 33, 34, 35] z.2 z5) (fun z6 : gM => g_let ((z.1 + (1 : Int32))) (fun z7 : Int32 => (true, (z7, z6))))) else g_let (f_s_writePage (g_sel [20, 21, 22, 23, 24, 25, 26, 27, 28, 29, 30, 31, 32, 33, 34, 35] z.2) z.1 (z.2 22 z.1.toNatClampNeg)) (fun z10 : gM => g_let (g_mrg [20, 21, 22, 23, 24, 25, 26, 27, 28, 29, 30, 31, 32, 33, 34, 35] z.2 z10) (fun z11 : gM => g_let ((z.1 + (1 : Int32))) (fun z12 : Int32 => (true, (z12, z11)))))))
noncomputable def K_h_copiesOfRewriting_31 (x1 : Int32) (x2 : Int32) (x3 : Int32) (z : Int32 × gM) : Prop := (if (40 : Int32) ≤ z.1 then True else (o_s_isWritten (g_sel [20, 21, 22, 23, 24, 25, 26, 27, 28, 29, 30, 31, 32, 33, 34, 35] z.2) z.1) ∧ ((if (f_s_isWritten (g_sel [20, 21, 22, 23, 24, 25, 26, 27, 28, 29, 30, 31, 32, 33, 34, 35] z.2) z.1) = 0 then (o_s_writePage (g_sel [20, 21, 22, 23, 24, 25, 26, 27, 28, 29, 30, 31, 32, 33, 34, 35] z.2) z.1 (0 : Int32)) ∧ (g_let (f_s_writePage (g_sel [20, 21, 22, 23, 24, 25, 26, 27, 28, 29, 30, 31, 32, 33, 34, 35] z.2) z.1 (0 : Int32)) (fun z5 : gM => g_let (g_mrg [20, 21, 22, 23, 24, 25, 26, 27, 28, 29, 30, 31, 32, 33, 34, 35] z.2 z5) (fun z6 : gM => g_let ((z.1 + (1 : Int32))) (fun z7 : Int32 => True)))) else (vp_in z.1 40) ∧ ((o_s_writePage (g_sel [20, 21, 22, 23, 24, 25, 26, 27, 28, 29, 30, 31, 32, 33, 34, 35] z.2) z.1 (z.2 22 z.1.toNatClampNeg)) ∧ (g_let (f_s_writePage (g_sel [20, 21, 22, 23, 24, 25, 26, 27, 28, 29, 30, 31, 32, 33, 34, 35] z.2) z.1 (z.2 22 z.1.toNatClampNeg)) (fun z10 : gM => g_let (g_mrg [20, 21, 22, 23, 24, 25, 26, 27, 28, 29, 30, 31, 32, 33, 34, 35] z.2 z10) (fun z11 : gM => g_let ((z.1 + (1 : Int32))) (fun z12 : Int32 => True))))))))
set_option maxRecDepth 100000 in
set_option maxHeartbeats 4000000 in
theorem lp_h_copiesOfRewriting_31 {p : Program} {l : Launch} {e : Env} {s : State} {m9 : MethodId} {args : Array Value} {below : List Frame} {meth : Method} {c : Code} {G : gG} {A : Nat → Prop} {Q : State → Prop} {q : Nat → Nat} (C : xC p s m9 args meth c G A 5 cX2_copiesOfRewriting RX2 wsX2_copiesOfRewriting) (hq : gD A q shH.length) (h : gN) (x1 : Int32) (x2 : Int32) (x3 : Int32) : ∀ (n : Nat) (z : Int32 × gM), rOk (L_h_copiesOfRewriting_31 x1 x2 x3) (K_h_copiesOfRewriting_31 x1 x2 x3) n z → (∀ z' : Int32 × gM, run (L_h_copiesOfRewriting_31 x1 x2 x3) n z = z' → xJ p l e rm_h_copiesOfRewriting s m9 args below meth c G A 5 Q 0 0 shH q z'.2 h [(0, .ref (q 0)), (1, .int x1), (2, .int x2), (3, .int x3), (4, .int z'.1)] [] 79) → xJ p l e rm_h_copiesOfRewriting s m9 args below meth c G A 5 Q 0 0 shH q z.2 h [(0, .ref (q 0)), (1, .int x1), (2, .int x2), (3, .int x3), (4, .int z.1)] [] 31 := by
  intro n
  induction n with
  | zero =>
    intro z hok _
    exact rOk_0 hok
  | succ n ih =>
    intro z hok K0
    have hnx := rOk_2 hok
    have hok := rOk_1 hok
    have hf := L_h_copiesOfRewriting_31.eq_1 x1 x2 x3 z
    have hok := Eq.mp (K_h_copiesOfRewriting_31.eq_1 x1 x2 x3 z) hok
    refine x_iload C dX2_copiesOfRewriting_31 4 rfl ?_
    refine x_bipush (v := (40 : Int32)) C dX2_copiesOfRewriting_33 (by decide) ?_
    refine x_icmp_ge (tgt := 79) C dX2_copiesOfRewriting_35 (by decide) (fun c1 => ?_) (fun c1 => ?_)
    · have hf := hf.trans (if_pos c1)
      have hok := g_ip c1 hok
      exact K0 ((z.1, z.2)) (run_f hf)
    · have hf := hf.trans (if_neg c1)
      have hok := g_in c1 hok
      refine x_aload_n C dX2_copiesOfRewriting_38 rfl 0 rfl ?_
      refine x_get (v := .ref (q 20)) C in_X2_copiesOfRewriting_2 0 rfl rfl 1 (by decide) k_X2_copiesOfRewriting_16 rfl rfl dX2_copiesOfRewriting_39 ?_
      refine x_iload C dX2_copiesOfRewriting_42 4 rfl ?_
      refine x_aload_n C dX2_copiesOfRewriting_44 rfl 0 rfl ?_
      refine x_get (v := .ref (q 20)) C in_X2_copiesOfRewriting_2 0 rfl rfl 1 (by decide) k_X2_copiesOfRewriting_16 rfl rfl dX2_copiesOfRewriting_45 ?_
      refine x_iload C dX2_copiesOfRewriting_48 4 rfl ?_
      have s2 := And.left hok
      have hok := And.right hok
      refine x_callVi (n := 1) C hq (gFr_pure gs_H_S_20_21) (c_s_isWritten l G (g_sel [20, 21, 22, 23, 24, 25, 26, 27, 28, 29, 30, 31, 32, 33, 34, 35] q) (g_sel [20, 21, 22, 23, 24, 25, 26, 27, 28, 29, 30, 31, 32, 33, 34, 35] z.2) (g_sel [20, 21, 22, 23, 24, 25, 26, 27, 28, 29, 30, 31, 32, 33, 34, 35] h) z.1 s2) (cwV 1 C.2.2.2.2.2.1 gX2_copiesOfRewriting_X1_isWritten rfl rfl rfl (by decide +kernel) ⟨Nat.le_of_ble_eq_true rfl, Nat.le_of_ble_eq_true rfl⟩) rfl rfl rfl rfl (Nat.le_of_ble_eq_true rfl) dX2_copiesOfRewriting_50 (Nat.zero_le _) (Nat.zero_le _) ?_
      refine x_if_eq (tgt := 69) C dX2_copiesOfRewriting_53 (by decide) (fun c3 => ?_) (fun c3 => ?_)
      · have hf := hf.trans (if_pos c3)
        have hok := g_ip c3 hok
        refine x_iconst (v := (0 : Int32)) C dX2_copiesOfRewriting_69 (by decide) ?_
        have s4 := And.left hok
        have hok := And.right hok
        obtain ⟨z5, hz5⟩ : ∃ y9 : gM, y9 = f_s_writePage (g_sel [20, 21, 22, 23, 24, 25, 26, 27, 28, 29, 30, 31, 32, 33, 34, 35] z.2) z.1 (0 : Int32) := ⟨_, rfl⟩
        have hf := hf.trans (g_let_eq hz5)
        have hok := g_let_p hz5 hok
        have hmz5 : gMv l yX1_writePage wsX1_writePage rm_s_writePage G shS (g_sel [20, 21, 22, 23, 24, 25, 26, 27, 28, 29, 30, 31, 32, 33, 34, 35] q) (g_sel [20, 21, 22, 23, 24, 25, 26, 27, 28, 29, 30, 31, 32, 33, 34, 35] z.2) (g_sel [20, 21, 22, 23, 24, 25, 26, 27, 28, 29, 30, 31, 32, 33, 34, 35] h) [.ref ((g_sel [20, 21, 22, 23, 24, 25, 26, 27, 28, 29, 30, 31, 32, 33, 34, 35] q) 0), .int z.1, .int (0 : Int32)] z5 (g_sel [20, 21, 22, 23, 24, 25, 26, 27, 28, 29, 30, 31, 32, 33, 34, 35] h) := by rw [hz5]; exact c_s_writePage l G (g_sel [20, 21, 22, 23, 24, 25, 26, 27, 28, 29, 30, 31, 32, 33, 34, 35] q) (g_sel [20, 21, 22, 23, 24, 25, 26, 27, 28, 29, 30, 31, 32, 33, 34, 35] z.2) (g_sel [20, 21, 22, 23, 24, 25, 26, 27, 28, 29, 30, 31, 32, 33, 34, 35] h) z.1 (0 : Int32) s4
        refine x_callVv (n := 2) C hq (gFr_sub gs_H_S_20_21) (hmz5) (cwV 2 C.2.2.2.2.2.1 gX2_copiesOfRewriting_X1_writePage rfl rfl rfl (by decide +kernel) ⟨Nat.le_of_ble_eq_true rfl, Nat.le_of_ble_eq_true rfl⟩) rfl rfl rfl rfl (Nat.le_of_ble_eq_true rfl) dX2_copiesOfRewriting_70 (Nat.zero_le _) (Nat.zero_le _) ?_
        obtain ⟨z6, hz6⟩ : ∃ y9 : gM, y9 = g_mrg [20, 21, 22, 23, 24, 25, 26, 27, 28, 29, 30, 31, 32, 33, 34, 35] z.2 z5 := ⟨_, rfl⟩
        have hf := hf.trans (g_let_eq hz6)
        have hok := g_let_p hz6 hok
        refine x_mu hz6 (g_mrg_id gs_H_S_20_21.1) ?_
        obtain ⟨z7, hz7⟩ : ∃ y9 : Int32, y9 = (z.1 + (1 : Int32)) := ⟨_, rfl⟩
        have hf := hf.trans (g_let_eq hz7)
        have hok := g_let_p hz7 hok
        refine x_iinc (v := z7) (lv' := [(0, .ref (q 0)), (1, .int x1), (2, .int x2), (3, .int x3), (4, .int z7)]) C dX2_copiesOfRewriting_73 4 rfl hz7.symm (by decide) [1, 2, 3, 4, 0] rfl ?_
        refine x_goto (tgt := 31) C dX2_copiesOfRewriting_76 (by decide) ?_
        exact ih ((z7, z6)) (rOk_t hnx hf) (fun z' hz => K0 z' ((run_t hf).trans hz))
      · have hf := hf.trans (if_neg c3)
        have hok := g_in c3 hok
        refine x_aload_n C dX2_copiesOfRewriting_56 rfl 0 rfl ?_
        refine x_get (v := .ref (q 20)) C in_X2_copiesOfRewriting_2 0 rfl rfl 1 (by decide) k_X2_copiesOfRewriting_16 rfl rfl dX2_copiesOfRewriting_57 ?_
        refine x_get (v := .ref (q 22)) C in_X2_copiesOfRewriting_1 20 rfl rfl 1 (by decide) k_X2_copiesOfRewriting_83 rfl rfl dX2_copiesOfRewriting_60 ?_
        refine x_iload C dX2_copiesOfRewriting_63 4 rfl ?_
        have s8 := And.left hok
        have hok := And.right hok
        refine x_iald (n := 40) (v := (z.2 22 z.1.toNatClampNeg)) C 22 rfl s8 rfl dX2_copiesOfRewriting_65 ?_
        refine x_goto (tgt := 70) C dX2_copiesOfRewriting_66 (by decide) ?_
        have s9 := And.left hok
        have hok := And.right hok
        obtain ⟨z10, hz10⟩ : ∃ y9 : gM, y9 = f_s_writePage (g_sel [20, 21, 22, 23, 24, 25, 26, 27, 28, 29, 30, 31, 32, 33, 34, 35] z.2) z.1 (z.2 22 z.1.toNatClampNeg) := ⟨_, rfl⟩
        have hf := hf.trans (g_let_eq hz10)
        have hok := g_let_p hz10 hok
        have hmz10 : gMv l yX1_writePage wsX1_writePage rm_s_writePage G shS (g_sel [20, 21, 22, 23, 24, 25, 26, 27, 28, 29, 30, 31, 32, 33, 34, 35] q) (g_sel [20, 21, 22, 23, 24, 25, 26, 27, 28, 29, 30, 31, 32, 33, 34, 35] z.2) (g_sel [20, 21, 22, 23, 24, 25, 26, 27, 28, 29, 30, 31, 32, 33, 34, 35] h) [.ref ((g_sel [20, 21, 22, 23, 24, 25, 26, 27, 28, 29, 30, 31, 32, 33, 34, 35] q) 0), .int z.1, .int (z.2 22 z.1.toNatClampNeg)] z10 (g_sel [20, 21, 22, 23, 24, 25, 26, 27, 28, 29, 30, 31, 32, 33, 34, 35] h) := by rw [hz10]; exact c_s_writePage l G (g_sel [20, 21, 22, 23, 24, 25, 26, 27, 28, 29, 30, 31, 32, 33, 34, 35] q) (g_sel [20, 21, 22, 23, 24, 25, 26, 27, 28, 29, 30, 31, 32, 33, 34, 35] z.2) (g_sel [20, 21, 22, 23, 24, 25, 26, 27, 28, 29, 30, 31, 32, 33, 34, 35] h) z.1 (z.2 22 z.1.toNatClampNeg) s9
        refine x_callVv (n := 2) C hq (gFr_sub gs_H_S_20_21) (hmz10) (cwV 2 C.2.2.2.2.2.1 gX2_copiesOfRewriting_X1_writePage rfl rfl rfl (by decide +kernel) ⟨Nat.le_of_ble_eq_true rfl, Nat.le_of_ble_eq_true rfl⟩) rfl rfl rfl rfl (Nat.le_of_ble_eq_true rfl) dX2_copiesOfRewriting_70 (Nat.zero_le _) (Nat.zero_le _) ?_
        obtain ⟨z11, hz11⟩ : ∃ y9 : gM, y9 = g_mrg [20, 21, 22, 23, 24, 25, 26, 27, 28, 29, 30, 31, 32, 33, 34, 35] z.2 z10 := ⟨_, rfl⟩
        have hf := hf.trans (g_let_eq hz11)
        have hok := g_let_p hz11 hok
        refine x_mu hz11 (g_mrg_id gs_H_S_20_21.1) ?_
        obtain ⟨z12, hz12⟩ : ∃ y9 : Int32, y9 = (z.1 + (1 : Int32)) := ⟨_, rfl⟩
        have hf := hf.trans (g_let_eq hz12)
        have hok := g_let_p hz12 hok
        refine x_iinc (v := z12) (lv' := [(0, .ref (q 0)), (1, .int x1), (2, .int x2), (3, .int x3), (4, .int z12)]) C dX2_copiesOfRewriting_73 4 rfl hz12.symm (by decide) [1, 2, 3, 4, 0] rfl ?_
        refine x_goto (tgt := 31) C dX2_copiesOfRewriting_76 (by decide) ?_
        exact ih ((z12, z11)) (rOk_t hnx hf) (fun z' hz => K0 z' ((run_t hf).trans hz))
noncomputable def L_h_copiesOfRewriting_23 (x1 : Int32) (x2 : Int32) (z : Int32 × gM) : Bool × (Int32 × gM) := (if x2 ≤ z.1 then (false, (z.1, z.2)) else g_let (run (L_h_copiesOfRewriting_31 x1 x2 z.1) 400 (((0 : Int32), z.2))) (fun z3 : Int32 × gM => g_let ((z.1 + (1 : Int32))) (fun z4 : Int32 => (true, (z4, z3.2)))))
noncomputable def K_h_copiesOfRewriting_23 (x1 : Int32) (x2 : Int32) (z : Int32 × gM) : Prop := (if x2 ≤ z.1 then True else (rOk (L_h_copiesOfRewriting_31 x1 x2 z.1) (K_h_copiesOfRewriting_31 x1 x2 z.1) 400 (((0 : Int32), z.2))) ∧ (g_let (run (L_h_copiesOfRewriting_31 x1 x2 z.1) 400 (((0 : Int32), z.2))) (fun z3 : Int32 × gM => g_let ((z.1 + (1 : Int32))) (fun z4 : Int32 => True))))
set_option maxRecDepth 100000 in
set_option maxHeartbeats 4000000 in
theorem lp_h_copiesOfRewriting_23 {p : Program} {l : Launch} {e : Env} {s : State} {m9 : MethodId} {args : Array Value} {below : List Frame} {meth : Method} {c : Code} {G : gG} {A : Nat → Prop} {Q : State → Prop} {q : Nat → Nat} (C : xC p s m9 args meth c G A 5 cX2_copiesOfRewriting RX2 wsX2_copiesOfRewriting) (hq : gD A q shH.length) (h : gN) (x1 : Int32) (x2 : Int32) : ∀ (n : Nat) (z : Int32 × gM), rOk (L_h_copiesOfRewriting_23 x1 x2) (K_h_copiesOfRewriting_23 x1 x2) n z → (∀ z' : Int32 × gM, run (L_h_copiesOfRewriting_23 x1 x2) n z = z' → xJ p l e rm_h_copiesOfRewriting s m9 args below meth c G A 5 Q 0 0 shH q z'.2 h [(0, .ref (q 0)), (1, .int x1), (2, .int x2), (3, .int z'.1)] [] 85) → xJ p l e rm_h_copiesOfRewriting s m9 args below meth c G A 5 Q 0 0 shH q z.2 h [(0, .ref (q 0)), (1, .int x1), (2, .int x2), (3, .int z.1)] [] 23 := by
  intro n
  induction n with
  | zero =>
    intro z hok _
    exact rOk_0 hok
  | succ n ih =>
    intro z hok K0
    have hnx := rOk_2 hok
    have hok := rOk_1 hok
    have hf := L_h_copiesOfRewriting_23.eq_1 x1 x2 z
    have hok := Eq.mp (K_h_copiesOfRewriting_23.eq_1 x1 x2 z) hok
    refine x_iload_n C dX2_copiesOfRewriting_23 rfl 3 rfl ?_
    refine x_iload_n C dX2_copiesOfRewriting_24 rfl 2 rfl ?_
    refine x_icmp_ge (tgt := 85) C dX2_copiesOfRewriting_25 (by decide) (fun c1 => ?_) (fun c1 => ?_)
    · have hf := hf.trans (if_pos c1)
      have hok := g_ip c1 hok
      exact K0 ((z.1, z.2)) (run_f hf)
    · have hf := hf.trans (if_neg c1)
      have hok := g_in c1 hok
      refine x_iconst (v := (0 : Int32)) C dX2_copiesOfRewriting_28 (by decide) ?_
      refine x_istore (lv' := [(0, .ref (q 0)), (1, .int x1), (2, .int x2), (3, .int z.1), (4, .int (0 : Int32))]) C dX2_copiesOfRewriting_29 (by decide) [1, 2, 3, 4, 0] rfl ?_
      have s2 := And.left hok
      have hok := And.right hok
      refine lp_h_copiesOfRewriting_31 C hq h x1 x2 z.1 400 (((0 : Int32), z.2)) s2 (fun z3 hz3 => ?_)
      have hf := hf.trans (g_let_eq hz3.symm)
      have hok := g_let_p hz3.symm hok
      obtain ⟨z4, hz4⟩ : ∃ y9 : Int32, y9 = (z.1 + (1 : Int32)) := ⟨_, rfl⟩
      have hf := hf.trans (g_let_eq hz4)
      have hok := g_let_p hz4 hok
      refine x_iinc (v := z4) (lv' := [(0, .ref (q 0)), (1, .int x1), (2, .int x2), (3, .int z4), (4, .int z3.1)]) C dX2_copiesOfRewriting_79 3 rfl hz4.symm (by decide) [1, 2, 3, 0, 4] rfl ?_
      refine x_goto (tgt := 23) C dX2_copiesOfRewriting_82 (by decide) ?_
      refine x_lv (lv' := [(0, .ref (q 0)), (1, .int x1), (2, .int x2), (3, .int z4)]) [0, 1, 2, 3] rfl ?_
      exact ih ((z4, z3.2)) (rOk_t hnx hf) (fun z' hz => K0 z' ((run_t hf).trans hz))
noncomputable def f_h_copiesOfRewriting (m : gM) (a1 : Int32) (a2 : Int32) : Int32 × gM := g_let (f_s_becomeLike (g_sel [20, 21, 22, 23, 24, 25, 26, 27, 28, 29, 30, 31, 32, 33, 34, 35, 4, 5, 6, 7, 8, 9, 10, 11, 12, 13, 14, 15, 16, 17, 18, 19] m)) (fun z2 : gM => g_let (g_mrg [20, 21, 22, 23, 24, 25, 26, 27, 28, 29, 30, 31, 32, 33, 34, 35, 4, 5, 6, 7, 8, 9, 10, 11, 12, 13, 14, 15, 16, 17, 18, 19] m z2) (fun z3 : gM => g_let (g_set z3 35 (upd (z3 35) (0 : Int32).toNatClampNeg a1)) (fun z4 : gM => g_let (run (L_h_copiesOfRewriting_23 a1 a2) 400 (((0 : Int32), z4))) (fun z6 : Int32 × gM => (((f_s_copies (g_sel [20, 21, 22, 23, 24, 25, 26, 27, 28, 29, 30, 31, 32, 33, 34, 35] z6.2)) - (f_s_copies (g_sel [4, 5, 6, 7, 8, 9, 10, 11, 12, 13, 14, 15, 16, 17, 18, 19] z6.2))), z6.2)))))
noncomputable def o_h_copiesOfRewriting (m : gM) (a1 : Int32) (a2 : Int32) : Prop := (o_s_becomeLike (g_sel [20, 21, 22, 23, 24, 25, 26, 27, 28, 29, 30, 31, 32, 33, 34, 35, 4, 5, 6, 7, 8, 9, 10, 11, 12, 13, 14, 15, 16, 17, 18, 19] m)) ∧ (g_let (f_s_becomeLike (g_sel [20, 21, 22, 23, 24, 25, 26, 27, 28, 29, 30, 31, 32, 33, 34, 35, 4, 5, 6, 7, 8, 9, 10, 11, 12, 13, 14, 15, 16, 17, 18, 19] m)) (fun z2 : gM => g_let (g_mrg [20, 21, 22, 23, 24, 25, 26, 27, 28, 29, 30, 31, 32, 33, 34, 35, 4, 5, 6, 7, 8, 9, 10, 11, 12, 13, 14, 15, 16, 17, 18, 19] m z2) (fun z3 : gM => g_let (g_set z3 35 (upd (z3 35) (0 : Int32).toNatClampNeg a1)) (fun z4 : gM => (rOk (L_h_copiesOfRewriting_23 a1 a2) (K_h_copiesOfRewriting_23 a1 a2) 400 (((0 : Int32), z4))) ∧ (g_let (run (L_h_copiesOfRewriting_23 a1 a2) 400 (((0 : Int32), z4))) (fun z6 : Int32 × gM => (o_s_copies (g_sel [20, 21, 22, 23, 24, 25, 26, 27, 28, 29, 30, 31, 32, 33, 34, 35] z6.2)) ∧ ((o_s_copies (g_sel [4, 5, 6, 7, 8, 9, 10, 11, 12, 13, 14, 15, 16, 17, 18, 19] z6.2)) ∧ (True))))))))
set_option maxRecDepth 100000 in
set_option maxHeartbeats 4000000 in
theorem c_h_copiesOfRewriting (l : Launch) (G : gG) (q : Nat → Nat) (m : gM) (h : gN) (a1 : Int32) (a2 : Int32) (hok : o_h_copiesOfRewriting m a1 a2) : gMi l yX2_copiesOfRewriting wsX2_copiesOfRewriting rm_h_copiesOfRewriting G shH q m h [.ref (q 0), .int a1, .int a2] ((f_h_copiesOfRewriting m a1 a2).2) h ((f_h_copiesOfRewriting m a1 a2).1) := by
  intro sz
  refine g_met (cc := cX2_copiesOfRewriting) (maxL := 5) (ret := (some .int)) (own := RX2) (Qc := fun sz => gQi G shH q ((f_h_copiesOfRewriting m a1 a2).2) h sz ((f_h_copiesOfRewriting m a1 a2).1)) (by decide) rfl rfl (Nat.le_of_ble_eq_true rfl) (fun p e s m9 below meth c C hq hr => ?_)
  refine x_lv (lv' := [(0, .ref (q 0)), (1, .int a1), (2, .int a2)]) [0, 1, 2] rfl ?_
  have hf := f_h_copiesOfRewriting.eq_1 m a1 a2
  have hok := Eq.mp (o_h_copiesOfRewriting.eq_1 m a1 a2) hok
  refine x_aload_n C dX2_copiesOfRewriting_0 rfl 0 rfl ?_
  refine x_get (v := .ref (q 20)) C in_X2_copiesOfRewriting_2 0 rfl rfl 1 (by decide) k_X2_copiesOfRewriting_16 rfl rfl dX2_copiesOfRewriting_1 ?_
  refine x_aload_n C dX2_copiesOfRewriting_4 rfl 0 rfl ?_
  refine x_get (v := .ref (q 4)) C in_X2_copiesOfRewriting_2 0 rfl rfl 0 (by decide) k_X2_copiesOfRewriting_10 rfl rfl dX2_copiesOfRewriting_5 ?_
  have s1 := And.left hok
  have hok := And.right hok
  obtain ⟨z2, hz2⟩ : ∃ y9 : gM, y9 = f_s_becomeLike (g_sel [20, 21, 22, 23, 24, 25, 26, 27, 28, 29, 30, 31, 32, 33, 34, 35, 4, 5, 6, 7, 8, 9, 10, 11, 12, 13, 14, 15, 16, 17, 18, 19] m) := ⟨_, rfl⟩
  have hf := hf.trans (g_let_eq hz2)
  have hok := g_let_p hz2 hok
  have hmz2 : gMv l yX1_becomeLike wsX1_becomeLike rm_s_becomeLike G shSS (g_sel [20, 21, 22, 23, 24, 25, 26, 27, 28, 29, 30, 31, 32, 33, 34, 35, 4, 5, 6, 7, 8, 9, 10, 11, 12, 13, 14, 15, 16, 17, 18, 19] q) (g_sel [20, 21, 22, 23, 24, 25, 26, 27, 28, 29, 30, 31, 32, 33, 34, 35, 4, 5, 6, 7, 8, 9, 10, 11, 12, 13, 14, 15, 16, 17, 18, 19] m) (g_sel [20, 21, 22, 23, 24, 25, 26, 27, 28, 29, 30, 31, 32, 33, 34, 35, 4, 5, 6, 7, 8, 9, 10, 11, 12, 13, 14, 15, 16, 17, 18, 19] h) [.ref ((g_sel [20, 21, 22, 23, 24, 25, 26, 27, 28, 29, 30, 31, 32, 33, 34, 35, 4, 5, 6, 7, 8, 9, 10, 11, 12, 13, 14, 15, 16, 17, 18, 19] q) 0), .ref ((g_sel [20, 21, 22, 23, 24, 25, 26, 27, 28, 29, 30, 31, 32, 33, 34, 35, 4, 5, 6, 7, 8, 9, 10, 11, 12, 13, 14, 15, 16, 17, 18, 19] q) 16)] z2 (g_sel [20, 21, 22, 23, 24, 25, 26, 27, 28, 29, 30, 31, 32, 33, 34, 35, 4, 5, 6, 7, 8, 9, 10, 11, 12, 13, 14, 15, 16, 17, 18, 19] h) := by rw [hz2]; exact c_s_becomeLike l G (g_sel [20, 21, 22, 23, 24, 25, 26, 27, 28, 29, 30, 31, 32, 33, 34, 35, 4, 5, 6, 7, 8, 9, 10, 11, 12, 13, 14, 15, 16, 17, 18, 19] q) (g_sel [20, 21, 22, 23, 24, 25, 26, 27, 28, 29, 30, 31, 32, 33, 34, 35, 4, 5, 6, 7, 8, 9, 10, 11, 12, 13, 14, 15, 16, 17, 18, 19] m) (g_sel [20, 21, 22, 23, 24, 25, 26, 27, 28, 29, 30, 31, 32, 33, 34, 35, 4, 5, 6, 7, 8, 9, 10, 11, 12, 13, 14, 15, 16, 17, 18, 19] h) s1
  refine x_callVv (n := 1) C hq (gFr_sub gs_H_SS_20_21) (hmz2) (cwV 1 C.2.2.2.2.2.1 gX2_copiesOfRewriting_X1_becomeLike rfl rfl rfl (by decide +kernel) ⟨Nat.le_of_ble_eq_true rfl, Nat.le_of_ble_eq_true rfl⟩) rfl rfl rfl rfl (Nat.le_of_ble_eq_true rfl) dX2_copiesOfRewriting_8 (Nat.zero_le _) (Nat.zero_le _) ?_
  obtain ⟨z3, hz3⟩ : ∃ y9 : gM, y9 = g_mrg [20, 21, 22, 23, 24, 25, 26, 27, 28, 29, 30, 31, 32, 33, 34, 35, 4, 5, 6, 7, 8, 9, 10, 11, 12, 13, 14, 15, 16, 17, 18, 19] m z2 := ⟨_, rfl⟩
  have hf := hf.trans (g_let_eq hz3)
  have hok := g_let_p hz3 hok
  refine x_mu hz3 (g_mrg_id gs_H_SS_20_21.1) ?_
  refine x_aload_n C dX2_copiesOfRewriting_11 rfl 0 rfl ?_
  refine x_get (v := .ref (q 20)) C in_X2_copiesOfRewriting_2 0 rfl rfl 1 (by decide) k_X2_copiesOfRewriting_16 rfl rfl dX2_copiesOfRewriting_12 ?_
  refine x_get (v := .ref (q 35)) C in_X2_copiesOfRewriting_1 20 rfl rfl 14 (by decide) k_X2_copiesOfRewriting_112 rfl rfl dX2_copiesOfRewriting_15 ?_
  refine x_iconst (v := (0 : Int32)) C dX2_copiesOfRewriting_18 (by decide) ?_
  refine x_iload_n C dX2_copiesOfRewriting_19 rfl 1 rfl ?_
  obtain ⟨z4, hz4⟩ : ∃ y9 : gM, y9 = g_set z3 35 (upd (z3 35) (0 : Int32).toNatClampNeg a1) := ⟨_, rfl⟩
  have hf := hf.trans (g_let_eq hz4)
  have hok := g_let_p hz4 hok
  refine x_iast (μ' := z4) (n := 2) C hq 35 rfl (by unfold vp_in; decide) hz4 dX2_copiesOfRewriting_20 ?_
  refine x_iconst (v := (0 : Int32)) C dX2_copiesOfRewriting_21 (by decide) ?_
  refine x_istore_n (lv' := [(0, .ref (q 0)), (1, .int a1), (2, .int a2), (3, .int (0 : Int32))]) C dX2_copiesOfRewriting_22 rfl (by decide) [1, 2, 3, 0] rfl ?_
  have s5 := And.left hok
  have hok := And.right hok
  refine lp_h_copiesOfRewriting_23 C hq h a1 a2 400 (((0 : Int32), z4)) s5 (fun z6 hz6 => ?_)
  have hf := hf.trans (g_let_eq hz6.symm)
  have hok := g_let_p hz6.symm hok
  refine x_aload_n C dX2_copiesOfRewriting_85 rfl 0 rfl ?_
  refine x_get (v := .ref (q 20)) C in_X2_copiesOfRewriting_2 0 rfl rfl 1 (by decide) k_X2_copiesOfRewriting_16 rfl rfl dX2_copiesOfRewriting_86 ?_
  have s7 := And.left hok
  have hok := And.right hok
  refine x_callVi (n := 0) C hq (gFr_pure gs_H_S_20_21) (c_s_copies l G (g_sel [20, 21, 22, 23, 24, 25, 26, 27, 28, 29, 30, 31, 32, 33, 34, 35] q) (g_sel [20, 21, 22, 23, 24, 25, 26, 27, 28, 29, 30, 31, 32, 33, 34, 35] z6.2) (g_sel [20, 21, 22, 23, 24, 25, 26, 27, 28, 29, 30, 31, 32, 33, 34, 35] h) s7) (cwV 0 C.2.2.2.2.2.1 gX2_copiesOfRewriting_X1_copies rfl rfl rfl (by decide +kernel) ⟨Nat.le_of_ble_eq_true rfl, Nat.le_of_ble_eq_true rfl⟩) rfl rfl rfl rfl (Nat.le_of_ble_eq_true rfl) dX2_copiesOfRewriting_89 (Nat.zero_le _) (Nat.zero_le _) ?_
  refine x_aload_n C dX2_copiesOfRewriting_92 rfl 0 rfl ?_
  refine x_get (v := .ref (q 4)) C in_X2_copiesOfRewriting_2 0 rfl rfl 0 (by decide) k_X2_copiesOfRewriting_10 rfl rfl dX2_copiesOfRewriting_93 ?_
  have s8 := And.left hok
  have hok := And.right hok
  refine x_callVi (n := 0) C hq (gFr_pure gs_H_S_4_5) (c_s_copies l G (g_sel [4, 5, 6, 7, 8, 9, 10, 11, 12, 13, 14, 15, 16, 17, 18, 19] q) (g_sel [4, 5, 6, 7, 8, 9, 10, 11, 12, 13, 14, 15, 16, 17, 18, 19] z6.2) (g_sel [4, 5, 6, 7, 8, 9, 10, 11, 12, 13, 14, 15, 16, 17, 18, 19] h) s8) (cwV 0 C.2.2.2.2.2.1 gX2_copiesOfRewriting_X1_copies rfl rfl rfl (by decide +kernel) ⟨Nat.le_of_ble_eq_true rfl, Nat.le_of_ble_eq_true rfl⟩) rfl rfl rfl rfl (Nat.le_of_ble_eq_true rfl) dX2_copiesOfRewriting_96 (Nat.zero_le _) (Nat.zero_le _) ?_
  refine x_isub C dX2_copiesOfRewriting_99 ?_
  exact g_iret C hr rfl dX2_copiesOfRewriting_100 (congrArg (fun z => z.1) hf).symm (congrArg (fun z => z.2) hf).symm rfl
set_option maxRecDepth 20000 in
theorem in_X2_clearBuffer_2 : ∀ w ∈ u_ws RX2 TX2 7, w ∈ wsX2_clearBuffer := by decide +kernel
set_option maxRecDepth 20000 in
theorem k_X2_clearBuffer_31 : Cond.fieldLink RX2 31 "HintedPages" "length" "I" ∈ wsX2_clearBuffer := by decide +kernel
abbrev rm_h_clearBuffer : Room := { frames := 0, cells := 0, slots := 0, locals := 0 }
noncomputable def f_h_clearBuffer (m : gM) : Int32 × gM := g_let ((m 0 5)) (fun z1 : Int32 => g_let (g_set m 0 (upd (m 0) 5 (0 : Int32))) (fun z2 : gM => (z1, z2)))
noncomputable def o_h_clearBuffer (m : gM) : Prop := g_let ((m 0 5)) (fun z1 : Int32 => g_let (g_set m 0 (upd (m 0) 5 (0 : Int32))) (fun z2 : gM => True))
set_option maxRecDepth 100000 in
set_option maxHeartbeats 4000000 in
theorem c_h_clearBuffer (l : Launch) (G : gG) (q : Nat → Nat) (m : gM) (h : gN) (hok : o_h_clearBuffer m) : gMi l yX2_clearBuffer wsX2_clearBuffer rm_h_clearBuffer G shH q m h [.ref (q 0)] ((f_h_clearBuffer m).2) h ((f_h_clearBuffer m).1) := by
  intro sz
  refine g_met (cc := cX2_clearBuffer) (maxL := 2) (ret := (some .int)) (own := RX2) (Qc := fun sz => gQi G shH q ((f_h_clearBuffer m).2) h sz ((f_h_clearBuffer m).1)) (by decide) rfl rfl (Nat.le_of_ble_eq_true rfl) (fun p e s m9 below meth c C hq hr => ?_)
  refine x_lv (lv' := [(0, .ref (q 0))]) [0] rfl ?_
  have hf := f_h_clearBuffer.eq_1 m
  have hok := Eq.mp (o_h_clearBuffer.eq_1 m) hok
  refine x_aload_n C dX2_clearBuffer_0 rfl 0 rfl ?_
  refine x_get (v := .int (m 0 5)) C in_X2_clearBuffer_2 0 rfl rfl 5 (by decide) k_X2_clearBuffer_31 rfl rfl dX2_clearBuffer_1 ?_
  obtain ⟨z1, hz1⟩ : ∃ y9 : Int32, y9 = (m 0 5) := ⟨_, rfl⟩
  have hf := hf.trans (g_let_eq hz1)
  have hok := g_let_p hz1 hok
  refine x_topi hz1 ?_
  refine x_istore_n (lv' := [(0, .ref (q 0)), (1, .int z1)]) C dX2_clearBuffer_4 rfl (by decide) [1, 0] rfl ?_
  refine x_aload_n C dX2_clearBuffer_5 rfl 0 rfl ?_
  refine x_iconst (v := (0 : Int32)) C dX2_clearBuffer_6 (by decide) ?_
  obtain ⟨z2, hz2⟩ : ∃ y9 : gM, y9 = g_set m 0 (upd (m 0) 5 (0 : Int32)) := ⟨_, rfl⟩
  have hf := hf.trans (g_let_eq hz2)
  have hok := g_let_p hz2 hok
  refine x_puti (μ' := z2) (ty := .int) C hq tyX2 tyX2_ok nmX2 in_X2_clearBuffer_2 0 rfl rfl 5 (by decide) k_X2_clearBuffer_31 rfl (tyX2_ok 5 (by decide)) rfl rfl rfl hz2 dX2_clearBuffer_7 ?_
  refine x_iload_n C dX2_clearBuffer_10 rfl 1 rfl ?_
  exact g_iret C hr rfl dX2_clearBuffer_11 (congrArg (fun z => z.1) hf).symm (congrArg (fun z => z.2) hf).symm rfl
abbrev rm_h_firstError : Room := { frames := 5, cells := 0, slots := 0, locals := 107 }
noncomputable def f_h_firstError (m : gM) : Int32 × gM := g_let (f_h_readBuffer m) (fun z2 : Int32 × gM => (z2.1, z2.2))
noncomputable def o_h_firstError (m : gM) : Prop := (o_h_readBuffer m) ∧ (g_let (f_h_readBuffer m) (fun z2 : Int32 × gM => True))
set_option maxRecDepth 100000 in
set_option maxHeartbeats 4000000 in
theorem c_h_firstError (l : Launch) (G : gG) (q : Nat → Nat) (m : gM) (h : gN) (hok : o_h_firstError m) : gMi l yX2_firstError wsX2_firstError rm_h_firstError G shH q m h [.ref (q 0)] ((f_h_firstError m).2) h ((f_h_firstError m).1) := by
  intro sz
  refine g_met (cc := cX2_firstError) (maxL := 1) (ret := (some .int)) (own := RX2) (Qc := fun sz => gQi G shH q ((f_h_firstError m).2) h sz ((f_h_firstError m).1)) (by decide) rfl rfl (Nat.le_of_ble_eq_true rfl) (fun p e s m9 below meth c C hq hr => ?_)
  refine x_lv (lv' := [(0, .ref (q 0))]) [0] rfl ?_
  have hf := f_h_firstError.eq_1 m
  have hok := Eq.mp (o_h_firstError.eq_1 m) hok
  refine x_aload_n C dX2_firstError_0 rfl 0 rfl ?_
  have s1 := And.left hok
  have hok := And.right hok
  obtain ⟨z2, hz2⟩ : ∃ y9 : Int32 × gM, y9 = f_h_readBuffer m := ⟨_, rfl⟩
  have hf := hf.trans (g_let_eq hz2)
  have hok := g_let_p hz2 hok
  have hmz2 : gMi l yX2_readBuffer wsX2_readBuffer rm_h_readBuffer G shH q m h [.ref (q 0)] z2.2 h z2.1 := by rw [hz2]; exact c_h_readBuffer l G q m h s1
  refine x_callVi (n := 0) C hq gFr_same (hmz2) (cwV 0 C.2.2.2.2.2.1 gX2_firstError_X2_readBuffer rfl rfl rfl (by decide +kernel) ⟨Nat.le_of_ble_eq_true rfl, Nat.le_of_ble_eq_true rfl⟩) rfl rfl rfl rfl (Nat.le_of_ble_eq_true rfl) dX2_firstError_1 (Nat.zero_le _) (Nat.zero_le _) ?_
  exact g_iret C hr rfl dX2_firstError_4 (congrArg (fun z => z.1) hf).symm (congrArg (fun z => z.2) hf).symm rfl
set_option maxRecDepth 20000 in
theorem in_X2_amplification_2 : ∀ w ∈ u_ws RX2 TX2 7, w ∈ wsX2_amplification := by decide +kernel
set_option maxRecDepth 20000 in
theorem k_X2_amplification_10 : Cond.fieldLink RX2 10 "HintedPages" "store" "LHintedPages$Store;" ∈ wsX2_amplification := by decide +kernel
abbrev rm_h_amplification : Room := { frames := 2, cells := 0, slots := 0, locals := 45 }
noncomputable def f_h_amplification (m : gM) : UInt64 := g_let ((f_s_writes (g_sel [4, 5, 6, 7, 8, 9, 10, 11, 12, 13, 14, 15, 16, 17, 18, 19] m))) (fun z2 : Int32 => (if z2 = 0 then FP.dconst1 else (FP.ddiv (FP.i2d (z2 + (f_s_copies (g_sel [4, 5, 6, 7, 8, 9, 10, 11, 12, 13, 14, 15, 16, 17, 18, 19] m)))) (FP.i2d z2))))
noncomputable def o_h_amplification (m : gM) : Prop := (o_s_writes (g_sel [4, 5, 6, 7, 8, 9, 10, 11, 12, 13, 14, 15, 16, 17, 18, 19] m)) ∧ (g_let ((f_s_writes (g_sel [4, 5, 6, 7, 8, 9, 10, 11, 12, 13, 14, 15, 16, 17, 18, 19] m))) (fun z2 : Int32 => (if z2 = 0 then True else (o_s_copies (g_sel [4, 5, 6, 7, 8, 9, 10, 11, 12, 13, 14, 15, 16, 17, 18, 19] m)) ∧ ((vf_n64 (FP.ddiv (FP.i2d (z2 + (f_s_copies (g_sel [4, 5, 6, 7, 8, 9, 10, 11, 12, 13, 14, 15, 16, 17, 18, 19] m)))) (FP.i2d z2))) ∧ (True)))))
set_option maxRecDepth 100000 in
set_option maxHeartbeats 4000000 in
theorem c_h_amplification (l : Launch) (G : gG) (q : Nat → Nat) (m : gM) (h : gN) (hok : o_h_amplification m) : gMd l yX2_amplification wsX2_amplification rm_h_amplification G shH q m h [.ref (q 0)] m h (f_h_amplification m) := by
  intro sz
  refine g_met (cc := cX2_amplification) (maxL := 2) (ret := (some .double)) (own := RX2) (Qc := fun sz => gQd G shH q m h sz (f_h_amplification m)) (by decide) rfl rfl (Nat.le_of_ble_eq_true rfl) (fun p e s m9 below meth c C hq hr => ?_)
  refine x_lv (lv' := [(0, .ref (q 0))]) [0] rfl ?_
  have hf := f_h_amplification.eq_1 m
  have hok := Eq.mp (o_h_amplification.eq_1 m) hok
  refine x_aload_n C dX2_amplification_0 rfl 0 rfl ?_
  refine x_get (v := .ref (q 4)) C in_X2_amplification_2 0 rfl rfl 0 (by decide) k_X2_amplification_10 rfl rfl dX2_amplification_1 ?_
  have s1 := And.left hok
  have hok := And.right hok
  refine x_callVi (n := 0) C hq (gFr_pure gs_H_S_4_5) (c_s_writes l G (g_sel [4, 5, 6, 7, 8, 9, 10, 11, 12, 13, 14, 15, 16, 17, 18, 19] q) (g_sel [4, 5, 6, 7, 8, 9, 10, 11, 12, 13, 14, 15, 16, 17, 18, 19] m) (g_sel [4, 5, 6, 7, 8, 9, 10, 11, 12, 13, 14, 15, 16, 17, 18, 19] h) s1) (cwV 0 C.2.2.2.2.2.1 gX2_amplification_X1_writes rfl rfl rfl (by decide +kernel) ⟨Nat.le_of_ble_eq_true rfl, Nat.le_of_ble_eq_true rfl⟩) rfl rfl rfl rfl (Nat.le_of_ble_eq_true rfl) dX2_amplification_4 (Nat.zero_le _) (Nat.zero_le _) ?_
  obtain ⟨z2, hz2⟩ : ∃ y9 : Int32, y9 = (f_s_writes (g_sel [4, 5, 6, 7, 8, 9, 10, 11, 12, 13, 14, 15, 16, 17, 18, 19] m)) := ⟨_, rfl⟩
  have hf := hf.trans (g_let_eq hz2)
  have hok := g_let_p hz2 hok
  refine x_topi hz2 ?_
  refine x_istore_n (lv' := [(0, .ref (q 0)), (1, .int z2)]) C dX2_amplification_7 rfl (by decide) [1, 0] rfl ?_
  refine x_iload_n C dX2_amplification_8 rfl 1 rfl ?_
  refine x_if_ne (tgt := 14) C dX2_amplification_9 (by decide) (fun c3 => ?_) (fun c3 => ?_)
  · have hf := hf.trans (if_neg c3)
    have hok := g_in c3 hok
    refine x_iload_n C dX2_amplification_14 rfl 1 rfl ?_
    refine x_aload_n C dX2_amplification_15 rfl 0 rfl ?_
    refine x_get (v := .ref (q 4)) C in_X2_amplification_2 0 rfl rfl 0 (by decide) k_X2_amplification_10 rfl rfl dX2_amplification_16 ?_
    have s4 := And.left hok
    have hok := And.right hok
    refine x_callVi (n := 0) C hq (gFr_pure gs_H_S_4_5) (c_s_copies l G (g_sel [4, 5, 6, 7, 8, 9, 10, 11, 12, 13, 14, 15, 16, 17, 18, 19] q) (g_sel [4, 5, 6, 7, 8, 9, 10, 11, 12, 13, 14, 15, 16, 17, 18, 19] m) (g_sel [4, 5, 6, 7, 8, 9, 10, 11, 12, 13, 14, 15, 16, 17, 18, 19] h) s4) (cwV 0 C.2.2.2.2.2.1 gX2_amplification_X1_copies rfl rfl rfl (by decide +kernel) ⟨Nat.le_of_ble_eq_true rfl, Nat.le_of_ble_eq_true rfl⟩) rfl rfl rfl rfl (Nat.le_of_ble_eq_true rfl) dX2_amplification_19 (Nat.zero_le _) (Nat.zero_le _) ?_
    refine x_iadd C dX2_amplification_22 ?_
    refine x_i2d C dX2_amplification_23 ?_
    refine x_iload_n C dX2_amplification_24 rfl 1 rfl ?_
    refine x_i2d C dX2_amplification_25 ?_
    have s5 := And.left hok
    have hok := And.right hok
    refine x_ddiv C dX2_amplification_26 s5 ?_
    exact g_dret C hr dX2_amplification_27 hf.symm rfl rfl
  · have hf := hf.trans (if_pos c3)
    have hok := g_ip c3 hok
    refine x_dconst1 C dX2_amplification_12 ?_
    exact g_dret C hr dX2_amplification_13 hf.symm rfl rfl
set_option maxRecDepth 20000 in
theorem gs_H_0_ : gSub shH sh0 [] := ⟨by decide, rfl⟩
set_option maxRecDepth 20000 in
theorem in_X2_page_2 : ∀ w ∈ u_ws RX2 TX2 7, w ∈ wsX2_page := by decide +kernel
set_option maxRecDepth 20000 in
theorem k_X2_page_10 : Cond.fieldLink RX2 10 "HintedPages" "store" "LHintedPages$Store;" ∈ wsX2_page := by decide +kernel
abbrev rm_h_page : Room := { frames := 3, cells := 0, slots := 0, locals := 64 }
noncomputable def f_h_page (m : gM) (a1 : Int32) (a2 : Int32) : Int32 := (if (f_h_isIn a1 (40 : Int32)) = 0 then (0 : Int32) else (if (f_h_isIn a2 (6 : Int32)) = 0 then (0 : Int32) else (f_s_pageProperty (g_sel [4, 5, 6, 7, 8, 9, 10, 11, 12, 13, 14, 15, 16, 17, 18, 19] m) a1 a2)))
noncomputable def o_h_page (m : gM) (a1 : Int32) (a2 : Int32) : Prop := (o_h_isIn a1 (40 : Int32)) ∧ ((if (f_h_isIn a1 (40 : Int32)) = 0 then False else (o_h_isIn a2 (6 : Int32)) ∧ ((if (f_h_isIn a2 (6 : Int32)) = 0 then False else (o_s_pageProperty (g_sel [4, 5, 6, 7, 8, 9, 10, 11, 12, 13, 14, 15, 16, 17, 18, 19] m) a1 a2) ∧ (True)))))
set_option maxRecDepth 100000 in
set_option maxHeartbeats 4000000 in
theorem c_h_page (l : Launch) (G : gG) (q : Nat → Nat) (m : gM) (h : gN) (a1 : Int32) (a2 : Int32) (hok : o_h_page m a1 a2) : gMi l yX2_page wsX2_page rm_h_page G shH q m h [.ref (q 0), .int a1, .int a2] m h (f_h_page m a1 a2) := by
  intro sz
  refine g_met (cc := cX2_page) (maxL := 3) (ret := (some .int)) (own := RX2) (Qc := fun sz => gQi G shH q m h sz (f_h_page m a1 a2)) (by decide) rfl rfl (Nat.le_of_ble_eq_true rfl) (fun p e s m9 below meth c C hq hr => ?_)
  refine x_lv (lv' := [(0, .ref (q 0)), (1, .int a1), (2, .int a2)]) [0, 1, 2] rfl ?_
  have hf := f_h_page.eq_1 m a1 a2
  have hok := Eq.mp (o_h_page.eq_1 m a1 a2) hok
  refine x_iload_n C dX2_page_0 rfl 1 rfl ?_
  refine x_bipush (v := (40 : Int32)) C dX2_page_1 (by decide) ?_
  have s1 := And.left hok
  have hok := And.right hok
  refine x_callSi (n := 2) C hq (gFr_pure gs_H_0_) (c_h_isIn l G (g_sel [] q) (g_sel [] m) (g_sel [] h) a1 (40 : Int32) s1) (va_cwS 2 C.2.2.2.2.2.1 gX2_page_X2_isIn rfl rfl rfl (by decide +kernel) ⟨Nat.le_of_ble_eq_true rfl, Nat.le_of_ble_eq_true rfl⟩) rfl rfl (Nat.le_of_ble_eq_true rfl) dX2_page_3 (Nat.zero_le _) (Nat.zero_le _) ?_
  refine x_if_ne (tgt := 19) C dX2_page_6 (by decide) (fun c2 => ?_) (fun c2 => ?_)
  · have hf := hf.trans (if_neg c2)
    have hok := g_in c2 hok
    refine x_iload_n C dX2_page_19 rfl 2 rfl ?_
    refine x_bipush (v := (6 : Int32)) C dX2_page_20 (by decide) ?_
    have s3 := And.left hok
    have hok := And.right hok
    refine x_callSi (n := 2) C hq (gFr_pure gs_H_0_) (c_h_isIn l G (g_sel [] q) (g_sel [] m) (g_sel [] h) a2 (6 : Int32) s3) (va_cwS 2 C.2.2.2.2.2.1 gX2_page_X2_isIn rfl rfl rfl (by decide +kernel) ⟨Nat.le_of_ble_eq_true rfl, Nat.le_of_ble_eq_true rfl⟩) rfl rfl (Nat.le_of_ble_eq_true rfl) dX2_page_22 (Nat.zero_le _) (Nat.zero_le _) ?_
    refine x_if_ne (tgt := 38) C dX2_page_25 (by decide) (fun c4 => ?_) (fun c4 => ?_)
    · have hf := hf.trans (if_neg c4)
      have hok := g_in c4 hok
      refine x_aload_n C dX2_page_38 rfl 0 rfl ?_
      refine x_get (v := .ref (q 4)) C in_X2_page_2 0 rfl rfl 0 (by decide) k_X2_page_10 rfl rfl dX2_page_39 ?_
      refine x_iload_n C dX2_page_42 rfl 1 rfl ?_
      refine x_iload_n C dX2_page_43 rfl 2 rfl ?_
      have s5 := And.left hok
      have hok := And.right hok
      refine x_callVi (n := 2) C hq (gFr_pure gs_H_S_4_5) (c_s_pageProperty l G (g_sel [4, 5, 6, 7, 8, 9, 10, 11, 12, 13, 14, 15, 16, 17, 18, 19] q) (g_sel [4, 5, 6, 7, 8, 9, 10, 11, 12, 13, 14, 15, 16, 17, 18, 19] m) (g_sel [4, 5, 6, 7, 8, 9, 10, 11, 12, 13, 14, 15, 16, 17, 18, 19] h) a1 a2 s5) (cwV 2 C.2.2.2.2.2.1 gX2_page_X1_pageProperty rfl rfl rfl (by decide +kernel) ⟨Nat.le_of_ble_eq_true rfl, Nat.le_of_ble_eq_true rfl⟩) rfl rfl rfl rfl (Nat.le_of_ble_eq_true rfl) dX2_page_44 (Nat.zero_le _) (Nat.zero_le _) ?_
      exact g_iret C hr rfl dX2_page_47 hf.symm rfl rfl
    · have hf := hf.trans (if_pos c4)
      have hok := g_ip c4 hok
      exact False.elim hok
  · have hf := hf.trans (if_pos c2)
    have hok := g_ip c2 hok
    exact False.elim hok
set_option maxRecDepth 20000 in
theorem in_X2_block_2 : ∀ w ∈ u_ws RX2 TX2 7, w ∈ wsX2_block := by decide +kernel
set_option maxRecDepth 20000 in
theorem k_X2_block_10 : Cond.fieldLink RX2 10 "HintedPages" "store" "LHintedPages$Store;" ∈ wsX2_block := by decide +kernel
abbrev rm_h_block : Room := { frames := 3, cells := 0, slots := 0, locals := 68 }
noncomputable def f_h_block (m : gM) (a1 : Int32) (a2 : Int32) : Int32 := (if (f_h_isIn a1 (12 : Int32)) = 0 then (0 : Int32) else (if (f_h_isIn a2 (8 : Int32)) = 0 then (0 : Int32) else (f_s_blockProperty (g_sel [4, 5, 6, 7, 8, 9, 10, 11, 12, 13, 14, 15, 16, 17, 18, 19] m) a1 a2)))
noncomputable def o_h_block (m : gM) (a1 : Int32) (a2 : Int32) : Prop := (o_h_isIn a1 (12 : Int32)) ∧ ((if (f_h_isIn a1 (12 : Int32)) = 0 then False else (o_h_isIn a2 (8 : Int32)) ∧ ((if (f_h_isIn a2 (8 : Int32)) = 0 then False else (o_s_blockProperty (g_sel [4, 5, 6, 7, 8, 9, 10, 11, 12, 13, 14, 15, 16, 17, 18, 19] m) a1 a2) ∧ (True)))))
set_option maxRecDepth 100000 in
set_option maxHeartbeats 4000000 in
theorem c_h_block (l : Launch) (G : gG) (q : Nat → Nat) (m : gM) (h : gN) (a1 : Int32) (a2 : Int32) (hok : o_h_block m a1 a2) : gMi l yX2_block wsX2_block rm_h_block G shH q m h [.ref (q 0), .int a1, .int a2] m h (f_h_block m a1 a2) := by
  intro sz
  refine g_met (cc := cX2_block) (maxL := 3) (ret := (some .int)) (own := RX2) (Qc := fun sz => gQi G shH q m h sz (f_h_block m a1 a2)) (by decide) rfl rfl (Nat.le_of_ble_eq_true rfl) (fun p e s m9 below meth c C hq hr => ?_)
  refine x_lv (lv' := [(0, .ref (q 0)), (1, .int a1), (2, .int a2)]) [0, 1, 2] rfl ?_
  have hf := f_h_block.eq_1 m a1 a2
  have hok := Eq.mp (o_h_block.eq_1 m a1 a2) hok
  refine x_iload_n C dX2_block_0 rfl 1 rfl ?_
  refine x_bipush (v := (12 : Int32)) C dX2_block_1 (by decide) ?_
  have s1 := And.left hok
  have hok := And.right hok
  refine x_callSi (n := 2) C hq (gFr_pure gs_H_0_) (c_h_isIn l G (g_sel [] q) (g_sel [] m) (g_sel [] h) a1 (12 : Int32) s1) (va_cwS 2 C.2.2.2.2.2.1 gX2_block_X2_isIn rfl rfl rfl (by decide +kernel) ⟨Nat.le_of_ble_eq_true rfl, Nat.le_of_ble_eq_true rfl⟩) rfl rfl (Nat.le_of_ble_eq_true rfl) dX2_block_3 (Nat.zero_le _) (Nat.zero_le _) ?_
  refine x_if_ne (tgt := 19) C dX2_block_6 (by decide) (fun c2 => ?_) (fun c2 => ?_)
  · have hf := hf.trans (if_neg c2)
    have hok := g_in c2 hok
    refine x_iload_n C dX2_block_19 rfl 2 rfl ?_
    refine x_bipush (v := (8 : Int32)) C dX2_block_20 (by decide) ?_
    have s3 := And.left hok
    have hok := And.right hok
    refine x_callSi (n := 2) C hq (gFr_pure gs_H_0_) (c_h_isIn l G (g_sel [] q) (g_sel [] m) (g_sel [] h) a2 (8 : Int32) s3) (va_cwS 2 C.2.2.2.2.2.1 gX2_block_X2_isIn rfl rfl rfl (by decide +kernel) ⟨Nat.le_of_ble_eq_true rfl, Nat.le_of_ble_eq_true rfl⟩) rfl rfl (Nat.le_of_ble_eq_true rfl) dX2_block_22 (Nat.zero_le _) (Nat.zero_le _) ?_
    refine x_if_ne (tgt := 38) C dX2_block_25 (by decide) (fun c4 => ?_) (fun c4 => ?_)
    · have hf := hf.trans (if_neg c4)
      have hok := g_in c4 hok
      refine x_aload_n C dX2_block_38 rfl 0 rfl ?_
      refine x_get (v := .ref (q 4)) C in_X2_block_2 0 rfl rfl 0 (by decide) k_X2_block_10 rfl rfl dX2_block_39 ?_
      refine x_iload_n C dX2_block_42 rfl 1 rfl ?_
      refine x_iload_n C dX2_block_43 rfl 2 rfl ?_
      have s5 := And.left hok
      have hok := And.right hok
      refine x_callVi (n := 2) C hq (gFr_pure gs_H_S_4_5) (c_s_blockProperty l G (g_sel [4, 5, 6, 7, 8, 9, 10, 11, 12, 13, 14, 15, 16, 17, 18, 19] q) (g_sel [4, 5, 6, 7, 8, 9, 10, 11, 12, 13, 14, 15, 16, 17, 18, 19] m) (g_sel [4, 5, 6, 7, 8, 9, 10, 11, 12, 13, 14, 15, 16, 17, 18, 19] h) a1 a2 s5) (cwV 2 C.2.2.2.2.2.1 gX2_block_X1_blockProperty rfl rfl rfl (by decide +kernel) ⟨Nat.le_of_ble_eq_true rfl, Nat.le_of_ble_eq_true rfl⟩) rfl rfl rfl rfl (Nat.le_of_ble_eq_true rfl) dX2_block_44 (Nat.zero_le _) (Nat.zero_le _) ?_
      exact g_iret C hr rfl dX2_block_47 hf.symm rfl rfl
    · have hf := hf.trans (if_pos c4)
      have hok := g_ip c4 hok
      exact False.elim hok
  · have hf := hf.trans (if_pos c2)
    have hok := g_ip c2 hok
    exact False.elim hok
set_option maxRecDepth 20000 in
theorem in_X2_slot_1 : ∀ w ∈ u_ws RX1 TX1 17, w ∈ wsX2_slot := by decide +kernel
set_option maxRecDepth 20000 in
theorem in_X2_slot_2 : ∀ w ∈ u_ws RX2 TX2 7, w ∈ wsX2_slot := by decide +kernel
set_option maxRecDepth 20000 in
theorem k_X2_slot_10 : Cond.fieldLink RX2 10 "HintedPages" "store" "LHintedPages$Store;" ∈ wsX2_slot := by decide +kernel
set_option maxRecDepth 20000 in
theorem k_X2_slot_159 : Cond.fieldLink RX2 159 "HintedPages$Store" "pageAt" "[I" ∈ wsX2_slot := by decide +kernel
abbrev rm_h_slot : Room := { frames := 1, cells := 0, slots := 0, locals := 22 }
noncomputable def f_h_slot (m : gM) (a1 : Int32) (a2 : Int32) (a3 : Int32) : Int32 := (if (f_h_isIn a1 (12 : Int32)) = 0 then (0 : Int32) else (if (f_h_isIn a2 (8 : Int32)) = 0 then (0 : Int32) else g_let (((a1 * (8 : Int32)) + a2)) (fun z5 : Int32 => (if a3 = 0 then (m 10 z5.toNatClampNeg) else (f_s_validPageAt (g_sel [4, 5, 6, 7, 8, 9, 10, 11, 12, 13, 14, 15, 16, 17, 18, 19] m) z5)))))
noncomputable def o_h_slot (m : gM) (a1 : Int32) (a2 : Int32) (a3 : Int32) : Prop := (o_h_isIn a1 (12 : Int32)) ∧ ((if (f_h_isIn a1 (12 : Int32)) = 0 then False else (o_h_isIn a2 (8 : Int32)) ∧ ((if (f_h_isIn a2 (8 : Int32)) = 0 then False else g_let (((a1 * (8 : Int32)) + a2)) (fun z5 : Int32 => (if a3 = 0 then (vp_in z5 96) ∧ (True) else (o_s_validPageAt (g_sel [4, 5, 6, 7, 8, 9, 10, 11, 12, 13, 14, 15, 16, 17, 18, 19] m) z5) ∧ (True)))))))
set_option maxRecDepth 100000 in
set_option maxHeartbeats 4000000 in
theorem c_h_slot (l : Launch) (G : gG) (q : Nat → Nat) (m : gM) (h : gN) (a1 : Int32) (a2 : Int32) (a3 : Int32) (hok : o_h_slot m a1 a2 a3) : gMi l yX2_slot wsX2_slot rm_h_slot G shH q m h [.ref (q 0), .int a1, .int a2, .int a3] m h (f_h_slot m a1 a2 a3) := by
  intro sz
  refine g_met (cc := cX2_slot) (maxL := 5) (ret := (some .int)) (own := RX2) (Qc := fun sz => gQi G shH q m h sz (f_h_slot m a1 a2 a3)) (by decide) rfl rfl (Nat.le_of_ble_eq_true rfl) (fun p e s m9 below meth c C hq hr => ?_)
  refine x_lv (lv' := [(0, .ref (q 0)), (1, .int a1), (2, .int a2), (3, .int a3)]) [0, 1, 2, 3] rfl ?_
  have hf := f_h_slot.eq_1 m a1 a2 a3
  have hok := Eq.mp (o_h_slot.eq_1 m a1 a2 a3) hok
  refine x_iload_n C dX2_slot_0 rfl 1 rfl ?_
  refine x_bipush (v := (12 : Int32)) C dX2_slot_1 (by decide) ?_
  have s1 := And.left hok
  have hok := And.right hok
  refine x_callSi (n := 2) C hq (gFr_pure gs_H_0_) (c_h_isIn l G (g_sel [] q) (g_sel [] m) (g_sel [] h) a1 (12 : Int32) s1) (va_cwS 2 C.2.2.2.2.2.1 gX2_slot_X2_isIn rfl rfl rfl (by decide +kernel) ⟨Nat.le_of_ble_eq_true rfl, Nat.le_of_ble_eq_true rfl⟩) rfl rfl (Nat.le_of_ble_eq_true rfl) dX2_slot_3 (Nat.zero_le _) (Nat.zero_le _) ?_
  refine x_if_eq (tgt := 18) C dX2_slot_6 (by decide) (fun c2 => ?_) (fun c2 => ?_)
  · have hf := hf.trans (if_pos c2)
    have hok := g_ip c2 hok
    exact False.elim hok
  · have hf := hf.trans (if_neg c2)
    have hok := g_in c2 hok
    refine x_iload_n C dX2_slot_9 rfl 2 rfl ?_
    refine x_bipush (v := (8 : Int32)) C dX2_slot_10 (by decide) ?_
    have s3 := And.left hok
    have hok := And.right hok
    refine x_callSi (n := 2) C hq (gFr_pure gs_H_0_) (c_h_isIn l G (g_sel [] q) (g_sel [] m) (g_sel [] h) a2 (8 : Int32) s3) (va_cwS 2 C.2.2.2.2.2.1 gX2_slot_X2_isIn rfl rfl rfl (by decide +kernel) ⟨Nat.le_of_ble_eq_true rfl, Nat.le_of_ble_eq_true rfl⟩) rfl rfl (Nat.le_of_ble_eq_true rfl) dX2_slot_12 (Nat.zero_le _) (Nat.zero_le _) ?_
    refine x_if_ne (tgt := 28) C dX2_slot_15 (by decide) (fun c4 => ?_) (fun c4 => ?_)
    · have hf := hf.trans (if_neg c4)
      have hok := g_in c4 hok
      refine x_iload_n C dX2_slot_28 rfl 1 rfl ?_
      refine x_bipush (v := (8 : Int32)) C dX2_slot_29 (by decide) ?_
      refine x_imul C dX2_slot_31 ?_
      refine x_iload_n C dX2_slot_32 rfl 2 rfl ?_
      refine x_iadd C dX2_slot_33 ?_
      obtain ⟨z5, hz5⟩ : ∃ y9 : Int32, y9 = ((a1 * (8 : Int32)) + a2) := ⟨_, rfl⟩
      have hf := hf.trans (g_let_eq hz5)
      have hok := g_let_p hz5 hok
      refine x_topi hz5 ?_
      refine x_istore (lv' := [(0, .ref (q 0)), (1, .int a1), (2, .int a2), (3, .int a3), (4, .int z5)]) C dX2_slot_34 (by decide) [1, 2, 3, 4, 0] rfl ?_
      refine x_iload_n C dX2_slot_36 rfl 3 rfl ?_
      refine x_if_eq (tgt := 52) C dX2_slot_37 (by decide) (fun c6 => ?_) (fun c6 => ?_)
      · have hf := hf.trans (if_pos c6)
        have hok := g_ip c6 hok
        refine x_aload_n C dX2_slot_52 rfl 0 rfl ?_
        refine x_get (v := .ref (q 4)) C in_X2_slot_2 0 rfl rfl 0 (by decide) k_X2_slot_10 rfl rfl dX2_slot_53 ?_
        refine x_get (v := .ref (q 10)) C in_X2_slot_1 4 rfl rfl 5 (by decide) k_X2_slot_159 rfl rfl dX2_slot_56 ?_
        refine x_iload C dX2_slot_59 4 rfl ?_
        have s7 := And.left hok
        have hok := And.right hok
        refine x_iald (n := 96) (v := (m 10 z5.toNatClampNeg)) C 10 rfl s7 rfl dX2_slot_61 ?_
        exact g_iret C hr rfl dX2_slot_62 hf.symm rfl rfl
      · have hf := hf.trans (if_neg c6)
        have hok := g_in c6 hok
        refine x_aload_n C dX2_slot_40 rfl 0 rfl ?_
        refine x_get (v := .ref (q 4)) C in_X2_slot_2 0 rfl rfl 0 (by decide) k_X2_slot_10 rfl rfl dX2_slot_41 ?_
        refine x_iload C dX2_slot_44 4 rfl ?_
        have s8 := And.left hok
        have hok := And.right hok
        refine x_callVi (n := 1) C hq (gFr_pure gs_H_S_4_5) (c_s_validPageAt l G (g_sel [4, 5, 6, 7, 8, 9, 10, 11, 12, 13, 14, 15, 16, 17, 18, 19] q) (g_sel [4, 5, 6, 7, 8, 9, 10, 11, 12, 13, 14, 15, 16, 17, 18, 19] m) (g_sel [4, 5, 6, 7, 8, 9, 10, 11, 12, 13, 14, 15, 16, 17, 18, 19] h) z5 s8) (cwV 1 C.2.2.2.2.2.1 gX2_slot_X1_validPageAt rfl rfl rfl (by decide +kernel) ⟨Nat.le_of_ble_eq_true rfl, Nat.le_of_ble_eq_true rfl⟩) rfl rfl rfl rfl (Nat.le_of_ble_eq_true rfl) dX2_slot_46 (Nat.zero_le _) (Nat.zero_le _) ?_
        refine x_goto (tgt := 62) C dX2_slot_49 (by decide) ?_
        exact g_iret C hr rfl dX2_slot_62 hf.symm rfl rfl
    · have hf := hf.trans (if_pos c4)
      have hok := g_ip c4 hok
      exact False.elim hok
set_option maxRecDepth 20000 in
theorem in_X2_stream_2 : ∀ w ∈ u_ws RX2 TX2 7, w ∈ wsX2_stream := by decide +kernel
set_option maxRecDepth 20000 in
theorem k_X2_stream_10 : Cond.fieldLink RX2 10 "HintedPages" "store" "LHintedPages$Store;" ∈ wsX2_stream := by decide +kernel
abbrev rm_h_stream : Room := { frames := 3, cells := 0, slots := 0, locals := 66 }
noncomputable def f_h_stream (m : gM) (a1 : Int32) (a2 : Int32) : Int32 := (if (f_h_isIn a1 (5 : Int32)) = 0 then (0 : Int32) else (if (f_h_isIn a2 (5 : Int32)) = 0 then (0 : Int32) else (f_s_streamProperty (g_sel [4, 5, 6, 7, 8, 9, 10, 11, 12, 13, 14, 15, 16, 17, 18, 19] m) a1 a2)))
noncomputable def o_h_stream (m : gM) (a1 : Int32) (a2 : Int32) : Prop := (o_h_isIn a1 (5 : Int32)) ∧ ((if (f_h_isIn a1 (5 : Int32)) = 0 then False else (o_h_isIn a2 (5 : Int32)) ∧ ((if (f_h_isIn a2 (5 : Int32)) = 0 then False else (o_s_streamProperty (g_sel [4, 5, 6, 7, 8, 9, 10, 11, 12, 13, 14, 15, 16, 17, 18, 19] m) a1 a2) ∧ (True)))))
set_option maxRecDepth 100000 in
set_option maxHeartbeats 4000000 in
theorem c_h_stream (l : Launch) (G : gG) (q : Nat → Nat) (m : gM) (h : gN) (a1 : Int32) (a2 : Int32) (hok : o_h_stream m a1 a2) : gMi l yX2_stream wsX2_stream rm_h_stream G shH q m h [.ref (q 0), .int a1, .int a2] m h (f_h_stream m a1 a2) := by
  intro sz
  refine g_met (cc := cX2_stream) (maxL := 3) (ret := (some .int)) (own := RX2) (Qc := fun sz => gQi G shH q m h sz (f_h_stream m a1 a2)) (by decide) rfl rfl (Nat.le_of_ble_eq_true rfl) (fun p e s m9 below meth c C hq hr => ?_)
  refine x_lv (lv' := [(0, .ref (q 0)), (1, .int a1), (2, .int a2)]) [0, 1, 2] rfl ?_
  have hf := f_h_stream.eq_1 m a1 a2
  have hok := Eq.mp (o_h_stream.eq_1 m a1 a2) hok
  refine x_iload_n C dX2_stream_0 rfl 1 rfl ?_
  refine x_iconst (v := (5 : Int32)) C dX2_stream_1 (by decide) ?_
  have s1 := And.left hok
  have hok := And.right hok
  refine x_callSi (n := 2) C hq (gFr_pure gs_H_0_) (c_h_isIn l G (g_sel [] q) (g_sel [] m) (g_sel [] h) a1 (5 : Int32) s1) (va_cwS 2 C.2.2.2.2.2.1 gX2_stream_X2_isIn rfl rfl rfl (by decide +kernel) ⟨Nat.le_of_ble_eq_true rfl, Nat.le_of_ble_eq_true rfl⟩) rfl rfl (Nat.le_of_ble_eq_true rfl) dX2_stream_2 (Nat.zero_le _) (Nat.zero_le _) ?_
  refine x_if_ne (tgt := 18) C dX2_stream_5 (by decide) (fun c2 => ?_) (fun c2 => ?_)
  · have hf := hf.trans (if_neg c2)
    have hok := g_in c2 hok
    refine x_iload_n C dX2_stream_18 rfl 2 rfl ?_
    refine x_iconst (v := (5 : Int32)) C dX2_stream_19 (by decide) ?_
    have s3 := And.left hok
    have hok := And.right hok
    refine x_callSi (n := 2) C hq (gFr_pure gs_H_0_) (c_h_isIn l G (g_sel [] q) (g_sel [] m) (g_sel [] h) a2 (5 : Int32) s3) (va_cwS 2 C.2.2.2.2.2.1 gX2_stream_X2_isIn rfl rfl rfl (by decide +kernel) ⟨Nat.le_of_ble_eq_true rfl, Nat.le_of_ble_eq_true rfl⟩) rfl rfl (Nat.le_of_ble_eq_true rfl) dX2_stream_20 (Nat.zero_le _) (Nat.zero_le _) ?_
    refine x_if_ne (tgt := 36) C dX2_stream_23 (by decide) (fun c4 => ?_) (fun c4 => ?_)
    · have hf := hf.trans (if_neg c4)
      have hok := g_in c4 hok
      refine x_aload_n C dX2_stream_36 rfl 0 rfl ?_
      refine x_get (v := .ref (q 4)) C in_X2_stream_2 0 rfl rfl 0 (by decide) k_X2_stream_10 rfl rfl dX2_stream_37 ?_
      refine x_iload_n C dX2_stream_40 rfl 1 rfl ?_
      refine x_iload_n C dX2_stream_41 rfl 2 rfl ?_
      have s5 := And.left hok
      have hok := And.right hok
      refine x_callVi (n := 2) C hq (gFr_pure gs_H_S_4_5) (c_s_streamProperty l G (g_sel [4, 5, 6, 7, 8, 9, 10, 11, 12, 13, 14, 15, 16, 17, 18, 19] q) (g_sel [4, 5, 6, 7, 8, 9, 10, 11, 12, 13, 14, 15, 16, 17, 18, 19] m) (g_sel [4, 5, 6, 7, 8, 9, 10, 11, 12, 13, 14, 15, 16, 17, 18, 19] h) a1 a2 s5) (cwV 2 C.2.2.2.2.2.1 gX2_stream_X1_streamProperty rfl rfl rfl (by decide +kernel) ⟨Nat.le_of_ble_eq_true rfl, Nat.le_of_ble_eq_true rfl⟩) rfl rfl rfl rfl (Nat.le_of_ble_eq_true rfl) dX2_stream_42 (Nat.zero_le _) (Nat.zero_le _) ?_
      exact g_iret C hr rfl dX2_stream_45 hf.symm rfl rfl
    · have hf := hf.trans (if_pos c4)
      have hok := g_ip c4 hok
      exact False.elim hok
  · have hf := hf.trans (if_pos c2)
    have hok := g_ip c2 hok
    exact False.elim hok
set_option maxRecDepth 20000 in
theorem in_X2_count_2 : ∀ w ∈ u_ws RX2 TX2 7, w ∈ wsX2_count := by decide +kernel
set_option maxRecDepth 20000 in
theorem k_X2_count_10 : Cond.fieldLink RX2 10 "HintedPages" "store" "LHintedPages$Store;" ∈ wsX2_count := by decide +kernel
set_option maxRecDepth 20000 in
theorem k_X2_count_23 : Cond.fieldLink RX2 23 "HintedPages" "savedStates" "I" ∈ wsX2_count := by decide +kernel
abbrev rm_h_count : Room := { frames := 3, cells := 0, slots := 0, locals := 66 }
noncomputable def f_h_count (m : gM) (a1 : Int32) : Int32 := (if (f_h_isIn a1 (12 : Int32)) = 0 then (0 : Int32) else (if a1 = (11 : Int32) then (m 0 3) else (f_s_total (g_sel [4, 5, 6, 7, 8, 9, 10, 11, 12, 13, 14, 15, 16, 17, 18, 19] m) a1)))
noncomputable def o_h_count (m : gM) (a1 : Int32) : Prop := (o_h_isIn a1 (12 : Int32)) ∧ ((if (f_h_isIn a1 (12 : Int32)) = 0 then False else (if a1 = (11 : Int32) then True else (o_s_total (g_sel [4, 5, 6, 7, 8, 9, 10, 11, 12, 13, 14, 15, 16, 17, 18, 19] m) a1) ∧ (True))))
set_option maxRecDepth 100000 in
set_option maxHeartbeats 4000000 in
theorem c_h_count (l : Launch) (G : gG) (q : Nat → Nat) (m : gM) (h : gN) (a1 : Int32) (hok : o_h_count m a1) : gMi l yX2_count wsX2_count rm_h_count G shH q m h [.ref (q 0), .int a1] m h (f_h_count m a1) := by
  intro sz
  refine g_met (cc := cX2_count) (maxL := 2) (ret := (some .int)) (own := RX2) (Qc := fun sz => gQi G shH q m h sz (f_h_count m a1)) (by decide) rfl rfl (Nat.le_of_ble_eq_true rfl) (fun p e s m9 below meth c C hq hr => ?_)
  refine x_lv (lv' := [(0, .ref (q 0)), (1, .int a1)]) [0, 1] rfl ?_
  have hf := f_h_count.eq_1 m a1
  have hok := Eq.mp (o_h_count.eq_1 m a1) hok
  refine x_iload_n C dX2_count_0 rfl 1 rfl ?_
  refine x_bipush (v := (12 : Int32)) C dX2_count_1 (by decide) ?_
  have s1 := And.left hok
  have hok := And.right hok
  refine x_callSi (n := 2) C hq (gFr_pure gs_H_0_) (c_h_isIn l G (g_sel [] q) (g_sel [] m) (g_sel [] h) a1 (12 : Int32) s1) (va_cwS 2 C.2.2.2.2.2.1 gX2_count_X2_isIn rfl rfl rfl (by decide +kernel) ⟨Nat.le_of_ble_eq_true rfl, Nat.le_of_ble_eq_true rfl⟩) rfl rfl (Nat.le_of_ble_eq_true rfl) dX2_count_3 (Nat.zero_le _) (Nat.zero_le _) ?_
  refine x_if_ne (tgt := 19) C dX2_count_6 (by decide) (fun c2 => ?_) (fun c2 => ?_)
  · have hf := hf.trans (if_neg c2)
    have hok := g_in c2 hok
    refine x_iload_n C dX2_count_19 rfl 1 rfl ?_
    refine x_bipush (v := (11 : Int32)) C dX2_count_20 (by decide) ?_
    refine x_icmp_ne (tgt := 32) C dX2_count_22 (by decide) (fun c3 => ?_) (fun c3 => ?_)
    · have hf := hf.trans (if_neg c3)
      have hok := g_in c3 hok
      refine x_aload_n C dX2_count_32 rfl 0 rfl ?_
      refine x_get (v := .ref (q 4)) C in_X2_count_2 0 rfl rfl 0 (by decide) k_X2_count_10 rfl rfl dX2_count_33 ?_
      refine x_iload_n C dX2_count_36 rfl 1 rfl ?_
      have s4 := And.left hok
      have hok := And.right hok
      refine x_callVi (n := 1) C hq (gFr_pure gs_H_S_4_5) (c_s_total l G (g_sel [4, 5, 6, 7, 8, 9, 10, 11, 12, 13, 14, 15, 16, 17, 18, 19] q) (g_sel [4, 5, 6, 7, 8, 9, 10, 11, 12, 13, 14, 15, 16, 17, 18, 19] m) (g_sel [4, 5, 6, 7, 8, 9, 10, 11, 12, 13, 14, 15, 16, 17, 18, 19] h) a1 s4) (cwV 1 C.2.2.2.2.2.1 gX2_count_X1_total rfl rfl rfl (by decide +kernel) ⟨Nat.le_of_ble_eq_true rfl, Nat.le_of_ble_eq_true rfl⟩) rfl rfl rfl rfl (Nat.le_of_ble_eq_true rfl) dX2_count_37 (Nat.zero_le _) (Nat.zero_le _) ?_
      exact g_iret C hr rfl dX2_count_40 hf.symm rfl rfl
    · have hf := hf.trans (if_pos c3)
      have hok := g_ip c3 hok
      refine x_aload_n C dX2_count_25 rfl 0 rfl ?_
      refine x_get (v := .int (m 0 3)) C in_X2_count_2 0 rfl rfl 3 (by decide) k_X2_count_23 rfl rfl dX2_count_26 ?_
      refine x_goto (tgt := 40) C dX2_count_29 (by decide) ?_
      exact g_iret C hr rfl dX2_count_40 hf.symm rfl rfl
  · have hf := hf.trans (if_pos c2)
    have hok := g_ip c2 hok
    exact False.elim hok
set_option maxRecDepth 20000 in
theorem in_X2_setting_1 : ∀ w ∈ u_ws RX1 TX1 17, w ∈ wsX2_setting := by decide +kernel
set_option maxRecDepth 20000 in
theorem in_X2_setting_2 : ∀ w ∈ u_ws RX2 TX2 7, w ∈ wsX2_setting := by decide +kernel
set_option maxRecDepth 20000 in
theorem k_X2_setting_10 : Cond.fieldLink RX2 10 "HintedPages" "store" "LHintedPages$Store;" ∈ wsX2_setting := by decide +kernel
set_option maxRecDepth 20000 in
theorem k_X2_setting_112 : Cond.fieldLink RX2 112 "HintedPages$Store" "settings" "[I" ∈ wsX2_setting := by decide +kernel
abbrev rm_h_setting : Room := { frames := 1, cells := 0, slots := 0, locals := 21 }
noncomputable def f_h_setting (m : gM) (a1 : Int32) : Int32 := (if (f_h_isIn a1 (2 : Int32)) = 0 then (0 : Int32) else (m 19 a1.toNatClampNeg))
noncomputable def o_h_setting (m : gM) (a1 : Int32) : Prop := (o_h_isIn a1 (2 : Int32)) ∧ ((if (f_h_isIn a1 (2 : Int32)) = 0 then False else (vp_in a1 2) ∧ (True)))
set_option maxRecDepth 100000 in
set_option maxHeartbeats 4000000 in
theorem c_h_setting (l : Launch) (G : gG) (q : Nat → Nat) (m : gM) (h : gN) (a1 : Int32) (hok : o_h_setting m a1) : gMi l yX2_setting wsX2_setting rm_h_setting G shH q m h [.ref (q 0), .int a1] m h (f_h_setting m a1) := by
  intro sz
  refine g_met (cc := cX2_setting) (maxL := 2) (ret := (some .int)) (own := RX2) (Qc := fun sz => gQi G shH q m h sz (f_h_setting m a1)) (by decide) rfl rfl (Nat.le_of_ble_eq_true rfl) (fun p e s m9 below meth c C hq hr => ?_)
  refine x_lv (lv' := [(0, .ref (q 0)), (1, .int a1)]) [0, 1] rfl ?_
  have hf := f_h_setting.eq_1 m a1
  have hok := Eq.mp (o_h_setting.eq_1 m a1) hok
  refine x_iload_n C dX2_setting_0 rfl 1 rfl ?_
  refine x_iconst (v := (2 : Int32)) C dX2_setting_1 (by decide) ?_
  have s1 := And.left hok
  have hok := And.right hok
  refine x_callSi (n := 2) C hq (gFr_pure gs_H_0_) (c_h_isIn l G (g_sel [] q) (g_sel [] m) (g_sel [] h) a1 (2 : Int32) s1) (va_cwS 2 C.2.2.2.2.2.1 gX2_setting_X2_isIn rfl rfl rfl (by decide +kernel) ⟨Nat.le_of_ble_eq_true rfl, Nat.le_of_ble_eq_true rfl⟩) rfl rfl (Nat.le_of_ble_eq_true rfl) dX2_setting_2 (Nat.zero_le _) (Nat.zero_le _) ?_
  refine x_if_ne (tgt := 18) C dX2_setting_5 (by decide) (fun c2 => ?_) (fun c2 => ?_)
  · have hf := hf.trans (if_neg c2)
    have hok := g_in c2 hok
    refine x_aload_n C dX2_setting_18 rfl 0 rfl ?_
    refine x_get (v := .ref (q 4)) C in_X2_setting_2 0 rfl rfl 0 (by decide) k_X2_setting_10 rfl rfl dX2_setting_19 ?_
    refine x_get (v := .ref (q 19)) C in_X2_setting_1 4 rfl rfl 14 (by decide) k_X2_setting_112 rfl rfl dX2_setting_22 ?_
    refine x_iload_n C dX2_setting_25 rfl 1 rfl ?_
    have s3 := And.left hok
    have hok := And.right hok
    refine x_iald (n := 2) (v := (m 19 a1.toNatClampNeg)) C 19 rfl s3 rfl dX2_setting_26 ?_
    exact g_iret C hr rfl dX2_setting_27 hf.symm rfl rfl
  · have hf := hf.trans (if_pos c2)
    have hok := g_ip c2 hok
    exact False.elim hok
abbrev rm_h_ifWritten : Room := { frames := 5, cells := 0, slots := 0, locals := 115 }
noncomputable def f_h_ifWritten (m : gM) (a1 : Int32) (a2 : Int32) (a3 : Int32) : Int32 × gM := (if (f_h_isIn a1 (40 : Int32)) = 0 then ((0 : Int32), m) else (if (f_h_isIn a2 (4 : Int32)) = 0 then ((0 : Int32), m) else (if (f_h_isIn a3 (3 : Int32)) = 0 then ((0 : Int32), m) else g_let (f_h_tryWriting m a1 a2) (fun z8 : gM => ((f_h_forecast z8 a1 a3), z8)))))
noncomputable def o_h_ifWritten (m : gM) (a1 : Int32) (a2 : Int32) (a3 : Int32) : Prop := (o_h_isIn a1 (40 : Int32)) ∧ ((if (f_h_isIn a1 (40 : Int32)) = 0 then False else (o_h_isIn a2 (4 : Int32)) ∧ ((if (f_h_isIn a2 (4 : Int32)) = 0 then False else (o_h_isIn a3 (3 : Int32)) ∧ ((if (f_h_isIn a3 (3 : Int32)) = 0 then False else (o_h_tryWriting m a1 a2) ∧ (g_let (f_h_tryWriting m a1 a2) (fun z8 : gM => (o_h_forecast z8 a1 a3) ∧ (True)))))))))
set_option maxRecDepth 100000 in
set_option maxHeartbeats 4000000 in
theorem c_h_ifWritten (l : Launch) (G : gG) (q : Nat → Nat) (m : gM) (h : gN) (a1 : Int32) (a2 : Int32) (a3 : Int32) (hok : o_h_ifWritten m a1 a2 a3) : gMi l yX2_ifWritten wsX2_ifWritten rm_h_ifWritten G shH q m h [.ref (q 0), .int a1, .int a2, .int a3] ((f_h_ifWritten m a1 a2 a3).2) h ((f_h_ifWritten m a1 a2 a3).1) := by
  intro sz
  refine g_met (cc := cX2_ifWritten) (maxL := 4) (ret := (some .int)) (own := RX2) (Qc := fun sz => gQi G shH q ((f_h_ifWritten m a1 a2 a3).2) h sz ((f_h_ifWritten m a1 a2 a3).1)) (by decide) rfl rfl (Nat.le_of_ble_eq_true rfl) (fun p e s m9 below meth c C hq hr => ?_)
  refine x_lv (lv' := [(0, .ref (q 0)), (1, .int a1), (2, .int a2), (3, .int a3)]) [0, 1, 2, 3] rfl ?_
  have hf := f_h_ifWritten.eq_1 m a1 a2 a3
  have hok := Eq.mp (o_h_ifWritten.eq_1 m a1 a2 a3) hok
  refine x_iload_n C dX2_ifWritten_0 rfl 1 rfl ?_
  refine x_bipush (v := (40 : Int32)) C dX2_ifWritten_1 (by decide) ?_
  have s1 := And.left hok
  have hok := And.right hok
  refine x_callSi (n := 2) C hq (gFr_pure gs_H_0_) (c_h_isIn l G (g_sel [] q) (g_sel [] m) (g_sel [] h) a1 (40 : Int32) s1) (va_cwS 2 C.2.2.2.2.2.1 gX2_ifWritten_X2_isIn rfl rfl rfl (by decide +kernel) ⟨Nat.le_of_ble_eq_true rfl, Nat.le_of_ble_eq_true rfl⟩) rfl rfl (Nat.le_of_ble_eq_true rfl) dX2_ifWritten_3 (Nat.zero_le _) (Nat.zero_le _) ?_
  refine x_if_ne (tgt := 19) C dX2_ifWritten_6 (by decide) (fun c2 => ?_) (fun c2 => ?_)
  · have hf := hf.trans (if_neg c2)
    have hok := g_in c2 hok
    refine x_iload_n C dX2_ifWritten_19 rfl 2 rfl ?_
    refine x_iconst (v := (4 : Int32)) C dX2_ifWritten_20 (by decide) ?_
    have s3 := And.left hok
    have hok := And.right hok
    refine x_callSi (n := 2) C hq (gFr_pure gs_H_0_) (c_h_isIn l G (g_sel [] q) (g_sel [] m) (g_sel [] h) a2 (4 : Int32) s3) (va_cwS 2 C.2.2.2.2.2.1 gX2_ifWritten_X2_isIn rfl rfl rfl (by decide +kernel) ⟨Nat.le_of_ble_eq_true rfl, Nat.le_of_ble_eq_true rfl⟩) rfl rfl (Nat.le_of_ble_eq_true rfl) dX2_ifWritten_21 (Nat.zero_le _) (Nat.zero_le _) ?_
    refine x_if_ne (tgt := 37) C dX2_ifWritten_24 (by decide) (fun c4 => ?_) (fun c4 => ?_)
    · have hf := hf.trans (if_neg c4)
      have hok := g_in c4 hok
      refine x_iload_n C dX2_ifWritten_37 rfl 3 rfl ?_
      refine x_iconst (v := (3 : Int32)) C dX2_ifWritten_38 (by decide) ?_
      have s5 := And.left hok
      have hok := And.right hok
      refine x_callSi (n := 2) C hq (gFr_pure gs_H_0_) (c_h_isIn l G (g_sel [] q) (g_sel [] m) (g_sel [] h) a3 (3 : Int32) s5) (va_cwS 2 C.2.2.2.2.2.1 gX2_ifWritten_X2_isIn rfl rfl rfl (by decide +kernel) ⟨Nat.le_of_ble_eq_true rfl, Nat.le_of_ble_eq_true rfl⟩) rfl rfl (Nat.le_of_ble_eq_true rfl) dX2_ifWritten_39 (Nat.zero_le _) (Nat.zero_le _) ?_
      refine x_if_ne (tgt := 55) C dX2_ifWritten_42 (by decide) (fun c6 => ?_) (fun c6 => ?_)
      · have hf := hf.trans (if_neg c6)
        have hok := g_in c6 hok
        refine x_aload_n C dX2_ifWritten_55 rfl 0 rfl ?_
        refine x_iload_n C dX2_ifWritten_56 rfl 1 rfl ?_
        refine x_iload_n C dX2_ifWritten_57 rfl 2 rfl ?_
        have s7 := And.left hok
        have hok := And.right hok
        obtain ⟨z8, hz8⟩ : ∃ y9 : gM, y9 = f_h_tryWriting m a1 a2 := ⟨_, rfl⟩
        have hf := hf.trans (g_let_eq hz8)
        have hok := g_let_p hz8 hok
        have hmz8 : gMv l yX2_tryWriting wsX2_tryWriting rm_h_tryWriting G shH q m h [.ref (q 0), .int a1, .int a2] z8 h := by rw [hz8]; exact c_h_tryWriting l G q m h a1 a2 s7
        refine x_callVv (n := 2) C hq gFr_same (hmz8) (cwV 2 C.2.2.2.2.2.1 gX2_ifWritten_X2_tryWriting rfl rfl rfl (by decide +kernel) ⟨Nat.le_of_ble_eq_true rfl, Nat.le_of_ble_eq_true rfl⟩) rfl rfl rfl rfl (Nat.le_of_ble_eq_true rfl) dX2_ifWritten_58 (Nat.zero_le _) (Nat.zero_le _) ?_
        refine x_aload_n C dX2_ifWritten_61 rfl 0 rfl ?_
        refine x_iload_n C dX2_ifWritten_62 rfl 1 rfl ?_
        refine x_iload_n C dX2_ifWritten_63 rfl 3 rfl ?_
        have s9 := And.left hok
        have hok := And.right hok
        refine x_callVi (n := 2) C hq gFr_same (c_h_forecast l G q z8 h a1 a3 s9) (cwV 2 C.2.2.2.2.2.1 gX2_ifWritten_X2_forecast rfl rfl rfl (by decide +kernel) ⟨Nat.le_of_ble_eq_true rfl, Nat.le_of_ble_eq_true rfl⟩) rfl rfl rfl rfl (Nat.le_of_ble_eq_true rfl) dX2_ifWritten_64 (Nat.zero_le _) (Nat.zero_le _) ?_
        exact g_iret C hr rfl dX2_ifWritten_67 (congrArg (fun z => z.1) hf).symm (congrArg (fun z => z.2) hf).symm rfl
      · have hf := hf.trans (if_pos c6)
        have hok := g_ip c6 hok
        exact False.elim hok
    · have hf := hf.trans (if_pos c4)
      have hok := g_ip c4 hok
      exact False.elim hok
  · have hf := hf.trans (if_pos c2)
    have hok := g_ip c2 hok
    exact False.elim hok
set_option maxRecDepth 20000 in
theorem in_X2_ifRewritten_1 : ∀ w ∈ u_ws RX1 TX1 17, w ∈ wsX2_ifRewritten := by decide +kernel
set_option maxRecDepth 20000 in
theorem in_X2_ifRewritten_2 : ∀ w ∈ u_ws RX2 TX2 7, w ∈ wsX2_ifRewritten := by decide +kernel
set_option maxRecDepth 20000 in
theorem k_X2_ifRewritten_10 : Cond.fieldLink RX2 10 "HintedPages" "store" "LHintedPages$Store;" ∈ wsX2_ifRewritten := by decide +kernel
set_option maxRecDepth 20000 in
theorem k_X2_ifRewritten_112 : Cond.fieldLink RX2 112 "HintedPages$Store" "settings" "[I" ∈ wsX2_ifRewritten := by decide +kernel
abbrev rm_h_ifRewritten : Room := { frames := 5, cells := 0, slots := 0, locals := 117 }
noncomputable def f_h_ifRewritten (m : gM) (a1 : Int32) : Int32 × gM := (if a1 < (1 : Int32) then ((0 : Int32), m) else (if a1 ≤ (9 : Int32) then g_let (f_h_copiesOfRewriting m (m 19 (0 : Int32).toNatClampNeg) a1) (fun z4 : Int32 × gM => (z4.1, z4.2)) else ((0 : Int32), m)))
noncomputable def o_h_ifRewritten (m : gM) (a1 : Int32) : Prop := (if a1 < (1 : Int32) then False else (if a1 ≤ (9 : Int32) then (o_h_copiesOfRewriting m (m 19 (0 : Int32).toNatClampNeg) a1) ∧ (g_let (f_h_copiesOfRewriting m (m 19 (0 : Int32).toNatClampNeg) a1) (fun z4 : Int32 × gM => True)) else False))
set_option maxRecDepth 100000 in
set_option maxHeartbeats 4000000 in
theorem c_h_ifRewritten (l : Launch) (G : gG) (q : Nat → Nat) (m : gM) (h : gN) (a1 : Int32) (hok : o_h_ifRewritten m a1) : gMi l yX2_ifRewritten wsX2_ifRewritten rm_h_ifRewritten G shH q m h [.ref (q 0), .int a1] ((f_h_ifRewritten m a1).2) h ((f_h_ifRewritten m a1).1) := by
  intro sz
  refine g_met (cc := cX2_ifRewritten) (maxL := 2) (ret := (some .int)) (own := RX2) (Qc := fun sz => gQi G shH q ((f_h_ifRewritten m a1).2) h sz ((f_h_ifRewritten m a1).1)) (by decide) rfl rfl (Nat.le_of_ble_eq_true rfl) (fun p e s m9 below meth c C hq hr => ?_)
  refine x_lv (lv' := [(0, .ref (q 0)), (1, .int a1)]) [0, 1] rfl ?_
  have hf := f_h_ifRewritten.eq_1 m a1
  have hok := Eq.mp (o_h_ifRewritten.eq_1 m a1) hok
  refine x_iload_n C dX2_ifRewritten_0 rfl 1 rfl ?_
  refine x_iconst (v := (1 : Int32)) C dX2_ifRewritten_1 (by decide) ?_
  refine x_icmp_lt (tgt := 11) C dX2_ifRewritten_2 (by decide) (fun c1 => ?_) (fun c1 => ?_)
  · have hf := hf.trans (if_pos c1)
    have hok := g_ip c1 hok
    exact False.elim hok
  · have hf := hf.trans (if_neg c1)
    have hok := g_in c1 hok
    refine x_iload_n C dX2_ifRewritten_5 rfl 1 rfl ?_
    refine x_bipush (v := (9 : Int32)) C dX2_ifRewritten_6 (by decide) ?_
    refine x_icmp_le (tgt := 21) C dX2_ifRewritten_8 (by decide) (fun c2 => ?_) (fun c2 => ?_)
    · have hf := hf.trans (if_pos c2)
      have hok := g_ip c2 hok
      refine x_aload_n C dX2_ifRewritten_21 rfl 0 rfl ?_
      refine x_aload_n C dX2_ifRewritten_22 rfl 0 rfl ?_
      refine x_get (v := .ref (q 4)) C in_X2_ifRewritten_2 0 rfl rfl 0 (by decide) k_X2_ifRewritten_10 rfl rfl dX2_ifRewritten_23 ?_
      refine x_get (v := .ref (q 19)) C in_X2_ifRewritten_1 4 rfl rfl 14 (by decide) k_X2_ifRewritten_112 rfl rfl dX2_ifRewritten_26 ?_
      refine x_iconst (v := (0 : Int32)) C dX2_ifRewritten_29 (by decide) ?_
      refine x_iald (n := 2) (v := (m 19 (0 : Int32).toNatClampNeg)) C 19 rfl (by unfold vp_in; decide) rfl dX2_ifRewritten_30 ?_
      refine x_iload_n C dX2_ifRewritten_31 rfl 1 rfl ?_
      have s3 := And.left hok
      have hok := And.right hok
      obtain ⟨z4, hz4⟩ : ∃ y9 : Int32 × gM, y9 = f_h_copiesOfRewriting m (m 19 (0 : Int32).toNatClampNeg) a1 := ⟨_, rfl⟩
      have hf := hf.trans (g_let_eq hz4)
      have hok := g_let_p hz4 hok
      have hmz4 : gMi l yX2_copiesOfRewriting wsX2_copiesOfRewriting rm_h_copiesOfRewriting G shH q m h [.ref (q 0), .int (m 19 (0 : Int32).toNatClampNeg), .int a1] z4.2 h z4.1 := by rw [hz4]; exact c_h_copiesOfRewriting l G q m h (m 19 (0 : Int32).toNatClampNeg) a1 s3
      refine x_callVi (n := 2) C hq gFr_same (hmz4) (cwV 2 C.2.2.2.2.2.1 gX2_ifRewritten_X2_copiesOfRewriting rfl rfl rfl (by decide +kernel) ⟨Nat.le_of_ble_eq_true rfl, Nat.le_of_ble_eq_true rfl⟩) rfl rfl rfl rfl (Nat.le_of_ble_eq_true rfl) dX2_ifRewritten_32 (Nat.zero_le _) (Nat.zero_le _) ?_
      exact g_iret C hr rfl dX2_ifRewritten_35 (congrArg (fun z => z.1) hf).symm (congrArg (fun z => z.2) hf).symm rfl
    · have hf := hf.trans (if_neg c2)
      have hok := g_in c2 hok
      exact False.elim hok
abbrev rm_h_bestRule : Room := { frames := 5, cells := 0, slots := 0, locals := 117 }
noncomputable def L_h_bestRule_33 (x1 : Int32) (z : Int32 × Int32 × Int32 × gM) : Bool × (Int32 × Int32 × Int32 × gM) := (if (3 : Int32) ≤ z.2.2.1 then (false, (z.1, z.2.1, z.2.2.1, z.2.2.2)) else g_let (f_h_copiesOfRewriting z.2.2.2 z.2.2.1 x1) (fun z3 : Int32 × gM => (if z.2.1 ≤ z3.1 then g_let ((z.2.2.1 + (1 : Int32))) (fun z5 : Int32 => (true, (z.1, z.2.1, z5, z3.2))) else g_let ((z.2.2.1 + (1 : Int32))) (fun z6 : Int32 => (true, (z.2.2.1, z3.1, z6, z3.2))))))
noncomputable def K_h_bestRule_33 (x1 : Int32) (z : Int32 × Int32 × Int32 × gM) : Prop := (if (3 : Int32) ≤ z.2.2.1 then True else (o_h_copiesOfRewriting z.2.2.2 z.2.2.1 x1) ∧ (g_let (f_h_copiesOfRewriting z.2.2.2 z.2.2.1 x1) (fun z3 : Int32 × gM => (if z.2.1 ≤ z3.1 then g_let ((z.2.2.1 + (1 : Int32))) (fun z5 : Int32 => True) else g_let ((z.2.2.1 + (1 : Int32))) (fun z6 : Int32 => True)))))
set_option maxRecDepth 100000 in
set_option maxHeartbeats 4000000 in
theorem lp_h_bestRule_33 {p : Program} {l : Launch} {e : Env} {s : State} {m9 : MethodId} {args : Array Value} {below : List Frame} {meth : Method} {c : Code} {G : gG} {A : Nat → Prop} {Q : State → Prop} {q : Nat → Nat} (C : xC p s m9 args meth c G A 6 cX2_bestRule RX2 wsX2_bestRule) (hq : gD A q shH.length) (h : gN) (x1 : Int32) : ∀ (n : Nat) (z : Int32 × Int32 × Int32 × gM), rOk (L_h_bestRule_33 x1) (K_h_bestRule_33 x1) n z → (∀ z' : Int32 × Int32 × Int32 × gM, run (L_h_bestRule_33 x1) n z = z' → xJ p l e rm_h_bestRule s m9 args below meth c G A 6 Q 0 0 shH q z'.2.2.2 h [(0, .ref (q 0)), (1, .int x1), (2, .int z'.1), (3, .int z'.2.1), (4, .int z'.2.2.1)] [] 66) → xJ p l e rm_h_bestRule s m9 args below meth c G A 6 Q 0 0 shH q z.2.2.2 h [(0, .ref (q 0)), (1, .int x1), (2, .int z.1), (3, .int z.2.1), (4, .int z.2.2.1)] [] 33 := by
  intro n
  induction n with
  | zero =>
    intro z hok _
    exact rOk_0 hok
  | succ n ih =>
    intro z hok K0
    have hnx := rOk_2 hok
    have hok := rOk_1 hok
    have hf := L_h_bestRule_33.eq_1 x1 z
    have hok := Eq.mp (K_h_bestRule_33.eq_1 x1 z) hok
    refine x_iload C dX2_bestRule_33 4 rfl ?_
    refine x_iconst (v := (3 : Int32)) C dX2_bestRule_35 (by decide) ?_
    refine x_icmp_ge (tgt := 66) C dX2_bestRule_36 (by decide) (fun c1 => ?_) (fun c1 => ?_)
    · have hf := hf.trans (if_pos c1)
      have hok := g_ip c1 hok
      exact K0 ((z.1, z.2.1, z.2.2.1, z.2.2.2)) (run_f hf)
    · have hf := hf.trans (if_neg c1)
      have hok := g_in c1 hok
      refine x_aload_n C dX2_bestRule_39 rfl 0 rfl ?_
      refine x_iload C dX2_bestRule_40 4 rfl ?_
      refine x_iload_n C dX2_bestRule_42 rfl 1 rfl ?_
      have s2 := And.left hok
      have hok := And.right hok
      obtain ⟨z3, hz3⟩ : ∃ y9 : Int32 × gM, y9 = f_h_copiesOfRewriting z.2.2.2 z.2.2.1 x1 := ⟨_, rfl⟩
      have hf := hf.trans (g_let_eq hz3)
      have hok := g_let_p hz3 hok
      have hmz3 : gMi l yX2_copiesOfRewriting wsX2_copiesOfRewriting rm_h_copiesOfRewriting G shH q z.2.2.2 h [.ref (q 0), .int z.2.2.1, .int x1] z3.2 h z3.1 := by rw [hz3]; exact c_h_copiesOfRewriting l G q z.2.2.2 h z.2.2.1 x1 s2
      refine x_callVi (n := 2) C hq gFr_same (hmz3) (cwV 2 C.2.2.2.2.2.1 gX2_bestRule_X2_copiesOfRewriting rfl rfl rfl (by decide +kernel) ⟨Nat.le_of_ble_eq_true rfl, Nat.le_of_ble_eq_true rfl⟩) rfl rfl rfl rfl (Nat.le_of_ble_eq_true rfl) dX2_bestRule_43 (Nat.zero_le _) (Nat.zero_le _) ?_
      refine x_istore (lv' := [(0, .ref (q 0)), (1, .int x1), (2, .int z.1), (3, .int z.2.1), (4, .int z.2.2.1), (5, .int z3.1)]) C dX2_bestRule_46 (by decide) [1, 2, 3, 4, 5, 0] rfl ?_
      refine x_iload C dX2_bestRule_48 5 rfl ?_
      refine x_iload_n C dX2_bestRule_50 rfl 3 rfl ?_
      refine x_icmp_ge (tgt := 60) C dX2_bestRule_51 (by decide) (fun c4 => ?_) (fun c4 => ?_)
      · have hf := hf.trans (if_pos c4)
        have hok := g_ip c4 hok
        obtain ⟨z5, hz5⟩ : ∃ y9 : Int32, y9 = (z.2.2.1 + (1 : Int32)) := ⟨_, rfl⟩
        have hf := hf.trans (g_let_eq hz5)
        have hok := g_let_p hz5 hok
        refine x_iinc (v := z5) (lv' := [(0, .ref (q 0)), (1, .int x1), (2, .int z.1), (3, .int z.2.1), (4, .int z5), (5, .int z3.1)]) C dX2_bestRule_60 4 rfl hz5.symm (by decide) [1, 2, 3, 4, 0, 5] rfl ?_
        refine x_goto (tgt := 33) C dX2_bestRule_63 (by decide) ?_
        refine x_lv (lv' := [(0, .ref (q 0)), (1, .int x1), (2, .int z.1), (3, .int z.2.1), (4, .int z5)]) [0, 1, 2, 3, 4] rfl ?_
        exact ih ((z.1, z.2.1, z5, z3.2)) (rOk_t hnx hf) (fun z' hz => K0 z' ((run_t hf).trans hz))
      · have hf := hf.trans (if_neg c4)
        have hok := g_in c4 hok
        refine x_iload C dX2_bestRule_54 4 rfl ?_
        refine x_istore_n (lv' := [(0, .ref (q 0)), (1, .int x1), (2, .int z.2.2.1), (3, .int z.2.1), (4, .int z.2.2.1), (5, .int z3.1)]) C dX2_bestRule_56 rfl (by decide) [1, 2, 0, 3, 4, 5] rfl ?_
        refine x_iload C dX2_bestRule_57 5 rfl ?_
        refine x_istore_n (lv' := [(0, .ref (q 0)), (1, .int x1), (2, .int z.2.2.1), (3, .int z3.1), (4, .int z.2.2.1), (5, .int z3.1)]) C dX2_bestRule_59 rfl (by decide) [1, 2, 3, 0, 4, 5] rfl ?_
        obtain ⟨z6, hz6⟩ : ∃ y9 : Int32, y9 = (z.2.2.1 + (1 : Int32)) := ⟨_, rfl⟩
        have hf := hf.trans (g_let_eq hz6)
        have hok := g_let_p hz6 hok
        refine x_iinc (v := z6) (lv' := [(0, .ref (q 0)), (1, .int x1), (2, .int z.2.2.1), (3, .int z3.1), (4, .int z6), (5, .int z3.1)]) C dX2_bestRule_60 4 rfl hz6.symm (by decide) [1, 2, 3, 4, 0, 5] rfl ?_
        refine x_goto (tgt := 33) C dX2_bestRule_63 (by decide) ?_
        refine x_lv (lv' := [(0, .ref (q 0)), (1, .int x1), (2, .int z.2.2.1), (3, .int z3.1), (4, .int z6)]) [0, 1, 2, 3, 4] rfl ?_
        exact ih ((z.2.2.1, z3.1, z6, z3.2)) (rOk_t hnx hf) (fun z' hz => K0 z' ((run_t hf).trans hz))
noncomputable def f_h_bestRule (m : gM) (a1 : Int32) : Int32 × gM := (if a1 < (1 : Int32) then ((0 : Int32), m) else (if a1 ≤ (9 : Int32) then g_let (f_h_copiesOfRewriting m (0 : Int32) a1) (fun z4 : Int32 × gM => g_let (run (L_h_bestRule_33 a1) 400 (((0 : Int32), z4.1, (1 : Int32), z4.2))) (fun z6 : Int32 × Int32 × Int32 × gM => (z6.1, z6.2.2.2))) else ((0 : Int32), m)))
noncomputable def o_h_bestRule (m : gM) (a1 : Int32) : Prop := (if a1 < (1 : Int32) then False else (if a1 ≤ (9 : Int32) then (o_h_copiesOfRewriting m (0 : Int32) a1) ∧ (g_let (f_h_copiesOfRewriting m (0 : Int32) a1) (fun z4 : Int32 × gM => (rOk (L_h_bestRule_33 a1) (K_h_bestRule_33 a1) 400 (((0 : Int32), z4.1, (1 : Int32), z4.2))) ∧ (g_let (run (L_h_bestRule_33 a1) 400 (((0 : Int32), z4.1, (1 : Int32), z4.2))) (fun z6 : Int32 × Int32 × Int32 × gM => True)))) else False))
set_option maxRecDepth 100000 in
set_option maxHeartbeats 4000000 in
theorem c_h_bestRule (l : Launch) (G : gG) (q : Nat → Nat) (m : gM) (h : gN) (a1 : Int32) (hok : o_h_bestRule m a1) : gMi l yX2_bestRule wsX2_bestRule rm_h_bestRule G shH q m h [.ref (q 0), .int a1] ((f_h_bestRule m a1).2) h ((f_h_bestRule m a1).1) := by
  intro sz
  refine g_met (cc := cX2_bestRule) (maxL := 6) (ret := (some .int)) (own := RX2) (Qc := fun sz => gQi G shH q ((f_h_bestRule m a1).2) h sz ((f_h_bestRule m a1).1)) (by decide) rfl rfl (Nat.le_of_ble_eq_true rfl) (fun p e s m9 below meth c C hq hr => ?_)
  refine x_lv (lv' := [(0, .ref (q 0)), (1, .int a1)]) [0, 1] rfl ?_
  have hf := f_h_bestRule.eq_1 m a1
  have hok := Eq.mp (o_h_bestRule.eq_1 m a1) hok
  refine x_iload_n C dX2_bestRule_0 rfl 1 rfl ?_
  refine x_iconst (v := (1 : Int32)) C dX2_bestRule_1 (by decide) ?_
  refine x_icmp_lt (tgt := 11) C dX2_bestRule_2 (by decide) (fun c1 => ?_) (fun c1 => ?_)
  · have hf := hf.trans (if_pos c1)
    have hok := g_ip c1 hok
    exact False.elim hok
  · have hf := hf.trans (if_neg c1)
    have hok := g_in c1 hok
    refine x_iload_n C dX2_bestRule_5 rfl 1 rfl ?_
    refine x_bipush (v := (9 : Int32)) C dX2_bestRule_6 (by decide) ?_
    refine x_icmp_le (tgt := 21) C dX2_bestRule_8 (by decide) (fun c2 => ?_) (fun c2 => ?_)
    · have hf := hf.trans (if_pos c2)
      have hok := g_ip c2 hok
      refine x_iconst (v := (0 : Int32)) C dX2_bestRule_21 (by decide) ?_
      refine x_istore_n (lv' := [(0, .ref (q 0)), (1, .int a1), (2, .int (0 : Int32))]) C dX2_bestRule_22 rfl (by decide) [1, 2, 0] rfl ?_
      refine x_aload_n C dX2_bestRule_23 rfl 0 rfl ?_
      refine x_iconst (v := (0 : Int32)) C dX2_bestRule_24 (by decide) ?_
      refine x_iload_n C dX2_bestRule_25 rfl 1 rfl ?_
      have s3 := And.left hok
      have hok := And.right hok
      obtain ⟨z4, hz4⟩ : ∃ y9 : Int32 × gM, y9 = f_h_copiesOfRewriting m (0 : Int32) a1 := ⟨_, rfl⟩
      have hf := hf.trans (g_let_eq hz4)
      have hok := g_let_p hz4 hok
      have hmz4 : gMi l yX2_copiesOfRewriting wsX2_copiesOfRewriting rm_h_copiesOfRewriting G shH q m h [.ref (q 0), .int (0 : Int32), .int a1] z4.2 h z4.1 := by rw [hz4]; exact c_h_copiesOfRewriting l G q m h (0 : Int32) a1 s3
      refine x_callVi (n := 2) C hq gFr_same (hmz4) (cwV 2 C.2.2.2.2.2.1 gX2_bestRule_X2_copiesOfRewriting rfl rfl rfl (by decide +kernel) ⟨Nat.le_of_ble_eq_true rfl, Nat.le_of_ble_eq_true rfl⟩) rfl rfl rfl rfl (Nat.le_of_ble_eq_true rfl) dX2_bestRule_26 (Nat.zero_le _) (Nat.zero_le _) ?_
      refine x_istore_n (lv' := [(0, .ref (q 0)), (1, .int a1), (2, .int (0 : Int32)), (3, .int z4.1)]) C dX2_bestRule_29 rfl (by decide) [1, 2, 3, 0] rfl ?_
      refine x_iconst (v := (1 : Int32)) C dX2_bestRule_30 (by decide) ?_
      refine x_istore (lv' := [(0, .ref (q 0)), (1, .int a1), (2, .int (0 : Int32)), (3, .int z4.1), (4, .int (1 : Int32))]) C dX2_bestRule_31 (by decide) [1, 2, 3, 4, 0] rfl ?_
      have s5 := And.left hok
      have hok := And.right hok
      refine lp_h_bestRule_33 C hq h a1 400 (((0 : Int32), z4.1, (1 : Int32), z4.2)) s5 (fun z6 hz6 => ?_)
      have hf := hf.trans (g_let_eq hz6.symm)
      have hok := g_let_p hz6.symm hok
      refine x_iload_n C dX2_bestRule_66 rfl 2 rfl ?_
      exact g_iret C hr rfl dX2_bestRule_67 (congrArg (fun z => z.1) hf).symm (congrArg (fun z => z.2) hf).symm rfl
    · have hf := hf.trans (if_neg c2)
      have hok := g_in c2 hok
      exact False.elim hok
set_option maxRecDepth 20000 in
theorem in_X2_withPages_2 : ∀ w ∈ u_ws RX2 TX2 7, w ∈ wsX2_withPages := by decide +kernel
set_option maxRecDepth 20000 in
theorem k_X2_withPages_10 : Cond.fieldLink RX2 10 "HintedPages" "store" "LHintedPages$Store;" ∈ wsX2_withPages := by decide +kernel
abbrev rm_h_withPages : Room := { frames := 3, cells := 0, slots := 0, locals := 64 }
noncomputable def L_h_withPages_15 (m : gM) (x1 : Int64) (x5 : Int32) (z : Int64 × Int32) : Bool × (Int64 × Int32) := (if (6 : Int32) ≤ z.2 then (false, (z.1, z.2)) else g_let ((f_h_mixed z.1 ((f_s_pageProperty (g_sel [4, 5, 6, 7, 8, 9, 10, 11, 12, 13, 14, 15, 16, 17, 18, 19] m) x5 z.2).toInt64))) (fun z4 : Int64 => g_let ((z.2 + (1 : Int32))) (fun z5 : Int32 => (true, (z4, z5)))))
noncomputable def K_h_withPages_15 (m : gM) (x1 : Int64) (x5 : Int32) (z : Int64 × Int32) : Prop := (if (6 : Int32) ≤ z.2 then True else (o_s_pageProperty (g_sel [4, 5, 6, 7, 8, 9, 10, 11, 12, 13, 14, 15, 16, 17, 18, 19] m) x5 z.2) ∧ ((o_h_mixed z.1 ((f_s_pageProperty (g_sel [4, 5, 6, 7, 8, 9, 10, 11, 12, 13, 14, 15, 16, 17, 18, 19] m) x5 z.2).toInt64)) ∧ (g_let ((f_h_mixed z.1 ((f_s_pageProperty (g_sel [4, 5, 6, 7, 8, 9, 10, 11, 12, 13, 14, 15, 16, 17, 18, 19] m) x5 z.2).toInt64))) (fun z4 : Int64 => g_let ((z.2 + (1 : Int32))) (fun z5 : Int32 => True)))))
set_option maxRecDepth 100000 in
set_option maxHeartbeats 4000000 in
theorem lp_h_withPages_15 {p : Program} {l : Launch} {e : Env} {s : State} {m9 : MethodId} {args : Array Value} {below : List Frame} {meth : Method} {c : Code} {G : gG} {A : Nat → Prop} {Q : State → Prop} {q : Nat → Nat} (C : xC p s m9 args meth c G A 7 cX2_withPages RX2 wsX2_withPages) (hq : gD A q shH.length) (m : gM) (h : gN) (x1 : Int64) (x5 : Int32) : ∀ (n : Nat) (z : Int64 × Int32), rOk (L_h_withPages_15 m x1 x5) (K_h_withPages_15 m x1 x5) n z → (∀ z' : Int64 × Int32, run (L_h_withPages_15 m x1 x5) n z = z' → xJ p l e rm_h_withPages s m9 args below meth c G A 7 Q 0 0 shH q m h [(0, .ref (q 0)), (1, .long x1), (3, .long z'.1), (5, .int x5), (6, .int z'.2)] [] 45) → xJ p l e rm_h_withPages s m9 args below meth c G A 7 Q 0 0 shH q m h [(0, .ref (q 0)), (1, .long x1), (3, .long z.1), (5, .int x5), (6, .int z.2)] [] 15 := by
  intro n
  induction n with
  | zero =>
    intro z hok _
    exact rOk_0 hok
  | succ n ih =>
    intro z hok K0
    have hnx := rOk_2 hok
    have hok := rOk_1 hok
    have hf := L_h_withPages_15.eq_1 m x1 x5 z
    have hok := Eq.mp (K_h_withPages_15.eq_1 m x1 x5 z) hok
    refine x_iload C dX2_withPages_15 4 rfl ?_
    refine x_bipush (v := (6 : Int32)) C dX2_withPages_17 (by decide) ?_
    refine x_icmp_ge (tgt := 45) C dX2_withPages_19 (by decide) (fun c1 => ?_) (fun c1 => ?_)
    · have hf := hf.trans (if_pos c1)
      have hok := g_ip c1 hok
      exact K0 ((z.1, z.2)) (run_f hf)
    · have hf := hf.trans (if_neg c1)
      have hok := g_in c1 hok
      refine x_lload_n C dX2_withPages_22 rfl 2 rfl ?_
      refine x_aload_n C dX2_withPages_23 rfl 0 rfl ?_
      refine x_get (v := .ref (q 4)) C in_X2_withPages_2 0 rfl rfl 0 (by decide) k_X2_withPages_10 rfl rfl dX2_withPages_24 ?_
      refine x_iload C dX2_withPages_27 3 rfl ?_
      refine x_iload C dX2_withPages_29 4 rfl ?_
      have s2 := And.left hok
      have hok := And.right hok
      refine x_callVi (n := 2) C hq (gFr_pure gs_H_S_4_5) (c_s_pageProperty l G (g_sel [4, 5, 6, 7, 8, 9, 10, 11, 12, 13, 14, 15, 16, 17, 18, 19] q) (g_sel [4, 5, 6, 7, 8, 9, 10, 11, 12, 13, 14, 15, 16, 17, 18, 19] m) (g_sel [4, 5, 6, 7, 8, 9, 10, 11, 12, 13, 14, 15, 16, 17, 18, 19] h) x5 z.2 s2) (cwV 2 C.2.2.2.2.2.1 gX2_withPages_X1_pageProperty rfl rfl rfl (by decide +kernel) ⟨Nat.le_of_ble_eq_true rfl, Nat.le_of_ble_eq_true rfl⟩) rfl rfl rfl rfl (Nat.le_of_ble_eq_true rfl) dX2_withPages_31 (Nat.zero_le _) (Nat.zero_le _) ?_
      refine x_i2l C dX2_withPages_34 rfl ?_
      have s3 := And.left hok
      have hok := And.right hok
      refine x_callSl (n := 2) C hq (gFr_pure gs_H_0_) (c_h_mixed l G (g_sel [] q) (g_sel [] m) (g_sel [] h) z.1 ((f_s_pageProperty (g_sel [4, 5, 6, 7, 8, 9, 10, 11, 12, 13, 14, 15, 16, 17, 18, 19] m) x5 z.2).toInt64) s3) (va_cwS 2 C.2.2.2.2.2.1 gX2_withPages_X2_mixed rfl rfl rfl (by decide +kernel) ⟨Nat.le_of_ble_eq_true rfl, Nat.le_of_ble_eq_true rfl⟩) rfl rfl (Nat.le_of_ble_eq_true rfl) dX2_withPages_35 (Nat.zero_le _) (Nat.zero_le _) ?_
      obtain ⟨z4, hz4⟩ : ∃ y9 : Int64, y9 = (f_h_mixed z.1 ((f_s_pageProperty (g_sel [4, 5, 6, 7, 8, 9, 10, 11, 12, 13, 14, 15, 16, 17, 18, 19] m) x5 z.2).toInt64)) := ⟨_, rfl⟩
      have hf := hf.trans (g_let_eq hz4)
      have hok := g_let_p hz4 hok
      refine x_topl hz4 ?_
      refine x_lstore_n (lv' := [(0, .ref (q 0)), (1, .long x1), (3, .long z4), (5, .int x5), (6, .int z.2)]) C dX2_withPages_38 rfl (by decide) [1, 2, 0, 3, 4] rfl ?_
      obtain ⟨z5, hz5⟩ : ∃ y9 : Int32, y9 = (z.2 + (1 : Int32)) := ⟨_, rfl⟩
      have hf := hf.trans (g_let_eq hz5)
      have hok := g_let_p hz5 hok
      refine x_iinc (v := z5) (lv' := [(0, .ref (q 0)), (1, .long x1), (3, .long z4), (5, .int x5), (6, .int z5)]) C dX2_withPages_39 4 rfl hz5.symm (by decide) [1, 2, 3, 4, 0] rfl ?_
      refine x_goto (tgt := 15) C dX2_withPages_42 (by decide) ?_
      exact ih ((z4, z5)) (rOk_t hnx hf) (fun z' hz => K0 z' ((run_t hf).trans hz))
noncomputable def L_h_withPages_5 (m : gM) (x1 : Int64) (z : Int64 × Int32) : Bool × (Int64 × Int32) := (if (40 : Int32) ≤ z.2 then (false, (z.1, z.2)) else g_let (run (L_h_withPages_15 m x1 z.2) 400 ((z.1, (0 : Int32)))) (fun z3 : Int64 × Int32 => g_let ((z.2 + (1 : Int32))) (fun z4 : Int32 => (true, (z3.1, z4)))))
noncomputable def K_h_withPages_5 (m : gM) (x1 : Int64) (z : Int64 × Int32) : Prop := (if (40 : Int32) ≤ z.2 then True else (rOk (L_h_withPages_15 m x1 z.2) (K_h_withPages_15 m x1 z.2) 400 ((z.1, (0 : Int32)))) ∧ (g_let (run (L_h_withPages_15 m x1 z.2) 400 ((z.1, (0 : Int32)))) (fun z3 : Int64 × Int32 => g_let ((z.2 + (1 : Int32))) (fun z4 : Int32 => True))))
set_option maxRecDepth 100000 in
set_option maxHeartbeats 4000000 in
theorem lp_h_withPages_5 {p : Program} {l : Launch} {e : Env} {s : State} {m9 : MethodId} {args : Array Value} {below : List Frame} {meth : Method} {c : Code} {G : gG} {A : Nat → Prop} {Q : State → Prop} {q : Nat → Nat} (C : xC p s m9 args meth c G A 7 cX2_withPages RX2 wsX2_withPages) (hq : gD A q shH.length) (m : gM) (h : gN) (x1 : Int64) : ∀ (n : Nat) (z : Int64 × Int32), rOk (L_h_withPages_5 m x1) (K_h_withPages_5 m x1) n z → (∀ z' : Int64 × Int32, run (L_h_withPages_5 m x1) n z = z' → xJ p l e rm_h_withPages s m9 args below meth c G A 7 Q 0 0 shH q m h [(0, .ref (q 0)), (1, .long x1), (3, .long z'.1), (5, .int z'.2)] [] 51) → xJ p l e rm_h_withPages s m9 args below meth c G A 7 Q 0 0 shH q m h [(0, .ref (q 0)), (1, .long x1), (3, .long z.1), (5, .int z.2)] [] 5 := by
  intro n
  induction n with
  | zero =>
    intro z hok _
    exact rOk_0 hok
  | succ n ih =>
    intro z hok K0
    have hnx := rOk_2 hok
    have hok := rOk_1 hok
    have hf := L_h_withPages_5.eq_1 m x1 z
    have hok := Eq.mp (K_h_withPages_5.eq_1 m x1 z) hok
    refine x_iload C dX2_withPages_5 3 rfl ?_
    refine x_bipush (v := (40 : Int32)) C dX2_withPages_7 (by decide) ?_
    refine x_icmp_ge (tgt := 51) C dX2_withPages_9 (by decide) (fun c1 => ?_) (fun c1 => ?_)
    · have hf := hf.trans (if_pos c1)
      have hok := g_ip c1 hok
      exact K0 ((z.1, z.2)) (run_f hf)
    · have hf := hf.trans (if_neg c1)
      have hok := g_in c1 hok
      refine x_iconst (v := (0 : Int32)) C dX2_withPages_12 (by decide) ?_
      refine x_istore (lv' := [(0, .ref (q 0)), (1, .long x1), (3, .long z.1), (5, .int z.2), (6, .int (0 : Int32))]) C dX2_withPages_13 (by decide) [1, 2, 3, 4, 0] rfl ?_
      have s2 := And.left hok
      have hok := And.right hok
      refine lp_h_withPages_15 C hq m h x1 z.2 400 ((z.1, (0 : Int32))) s2 (fun z3 hz3 => ?_)
      have hf := hf.trans (g_let_eq hz3.symm)
      have hok := g_let_p hz3.symm hok
      obtain ⟨z4, hz4⟩ : ∃ y9 : Int32, y9 = (z.2 + (1 : Int32)) := ⟨_, rfl⟩
      have hf := hf.trans (g_let_eq hz4)
      have hok := g_let_p hz4 hok
      refine x_iinc (v := z4) (lv' := [(0, .ref (q 0)), (1, .long x1), (3, .long z3.1), (5, .int z4), (6, .int z3.2)]) C dX2_withPages_45 3 rfl hz4.symm (by decide) [1, 2, 3, 0, 4] rfl ?_
      refine x_goto (tgt := 5) C dX2_withPages_48 (by decide) ?_
      refine x_lv (lv' := [(0, .ref (q 0)), (1, .long x1), (3, .long z3.1), (5, .int z4)]) [0, 1, 2, 3] rfl ?_
      exact ih ((z3.1, z4)) (rOk_t hnx hf) (fun z' hz => K0 z' ((run_t hf).trans hz))
noncomputable def f_h_withPages (m : gM) (a1 : Int64) : Int64 := g_let (run (L_h_withPages_5 m a1) 400 ((a1, (0 : Int32)))) (fun z2 : Int64 × Int32 => z2.1)
noncomputable def o_h_withPages (m : gM) (a1 : Int64) : Prop := (rOk (L_h_withPages_5 m a1) (K_h_withPages_5 m a1) 400 ((a1, (0 : Int32)))) ∧ (g_let (run (L_h_withPages_5 m a1) 400 ((a1, (0 : Int32)))) (fun z2 : Int64 × Int32 => True))
set_option maxRecDepth 100000 in
set_option maxHeartbeats 4000000 in
theorem c_h_withPages (l : Launch) (G : gG) (q : Nat → Nat) (m : gM) (h : gN) (a1 : Int64) (hok : o_h_withPages m a1) : gMl l yX2_withPages wsX2_withPages rm_h_withPages G shH q m h [.ref (q 0), .long a1] m h (f_h_withPages m a1) := by
  intro sz
  refine g_met (cc := cX2_withPages) (maxL := 7) (ret := (some .long)) (own := RX2) (Qc := fun sz => gQl G shH q m h sz (f_h_withPages m a1)) (by decide) rfl rfl (Nat.le_of_ble_eq_true rfl) (fun p e s m9 below meth c C hq hr => ?_)
  refine x_lv (lv' := [(0, .ref (q 0)), (1, .long a1)]) [0, 1] rfl ?_
  have hf := f_h_withPages.eq_1 m a1
  have hok := Eq.mp (o_h_withPages.eq_1 m a1) hok
  refine x_lload_n C dX2_withPages_0 rfl 1 rfl ?_
  refine x_lstore_n (lv' := [(0, .ref (q 0)), (1, .long a1), (3, .long a1)]) C dX2_withPages_1 rfl (by decide) [1, 2, 0] rfl ?_
  refine x_iconst (v := (0 : Int32)) C dX2_withPages_2 (by decide) ?_
  refine x_istore (lv' := [(0, .ref (q 0)), (1, .long a1), (3, .long a1), (5, .int (0 : Int32))]) C dX2_withPages_3 (by decide) [1, 2, 3, 0] rfl ?_
  have s1 := And.left hok
  have hok := And.right hok
  refine lp_h_withPages_5 C hq m h a1 400 ((a1, (0 : Int32))) s1 (fun z2 hz2 => ?_)
  have hf := hf.trans (g_let_eq hz2.symm)
  have hok := g_let_p hz2.symm hok
  refine x_lload_n C dX2_withPages_51 rfl 2 rfl ?_
  exact g_lret C hr dX2_withPages_52 hf.symm rfl rfl
set_option maxRecDepth 20000 in
theorem in_X2_withBlocks_1 : ∀ w ∈ u_ws RX1 TX1 17, w ∈ wsX2_withBlocks := by decide +kernel
set_option maxRecDepth 20000 in
theorem in_X2_withBlocks_2 : ∀ w ∈ u_ws RX2 TX2 7, w ∈ wsX2_withBlocks := by decide +kernel
set_option maxRecDepth 20000 in
theorem k_X2_withBlocks_10 : Cond.fieldLink RX2 10 "HintedPages" "store" "LHintedPages$Store;" ∈ wsX2_withBlocks := by decide +kernel
set_option maxRecDepth 20000 in
theorem k_X2_withBlocks_159 : Cond.fieldLink RX2 159 "HintedPages$Store" "pageAt" "[I" ∈ wsX2_withBlocks := by decide +kernel
abbrev rm_h_withBlocks : Room := { frames := 3, cells := 0, slots := 0, locals := 68 }
noncomputable def L_h_withBlocks_15 (m : gM) (x1 : Int64) (x5 : Int32) (z : Int64 × Int32) : Bool × (Int64 × Int32) := (if (8 : Int32) ≤ z.2 then (false, (z.1, z.2)) else g_let ((f_h_mixed z.1 ((f_s_blockProperty (g_sel [4, 5, 6, 7, 8, 9, 10, 11, 12, 13, 14, 15, 16, 17, 18, 19] m) x5 z.2).toInt64))) (fun z4 : Int64 => g_let ((z.2 + (1 : Int32))) (fun z5 : Int32 => (true, (z4, z5)))))
noncomputable def K_h_withBlocks_15 (m : gM) (x1 : Int64) (x5 : Int32) (z : Int64 × Int32) : Prop := (if (8 : Int32) ≤ z.2 then True else (o_s_blockProperty (g_sel [4, 5, 6, 7, 8, 9, 10, 11, 12, 13, 14, 15, 16, 17, 18, 19] m) x5 z.2) ∧ ((o_h_mixed z.1 ((f_s_blockProperty (g_sel [4, 5, 6, 7, 8, 9, 10, 11, 12, 13, 14, 15, 16, 17, 18, 19] m) x5 z.2).toInt64)) ∧ (g_let ((f_h_mixed z.1 ((f_s_blockProperty (g_sel [4, 5, 6, 7, 8, 9, 10, 11, 12, 13, 14, 15, 16, 17, 18, 19] m) x5 z.2).toInt64))) (fun z4 : Int64 => g_let ((z.2 + (1 : Int32))) (fun z5 : Int32 => True)))))
set_option maxRecDepth 100000 in
set_option maxHeartbeats 4000000 in
theorem lp_h_withBlocks_15 {p : Program} {l : Launch} {e : Env} {s : State} {m9 : MethodId} {args : Array Value} {below : List Frame} {meth : Method} {c : Code} {G : gG} {A : Nat → Prop} {Q : State → Prop} {q : Nat → Nat} (C : xC p s m9 args meth c G A 7 cX2_withBlocks RX2 wsX2_withBlocks) (hq : gD A q shH.length) (m : gM) (h : gN) (x1 : Int64) (x5 : Int32) : ∀ (n : Nat) (z : Int64 × Int32), rOk (L_h_withBlocks_15 m x1 x5) (K_h_withBlocks_15 m x1 x5) n z → (∀ z' : Int64 × Int32, run (L_h_withBlocks_15 m x1 x5) n z = z' → xJ p l e rm_h_withBlocks s m9 args below meth c G A 7 Q 0 0 shH q m h [(0, .ref (q 0)), (1, .long x1), (3, .long z'.1), (5, .int x5), (6, .int z'.2)] [] 45) → xJ p l e rm_h_withBlocks s m9 args below meth c G A 7 Q 0 0 shH q m h [(0, .ref (q 0)), (1, .long x1), (3, .long z.1), (5, .int x5), (6, .int z.2)] [] 15 := by
  intro n
  induction n with
  | zero =>
    intro z hok _
    exact rOk_0 hok
  | succ n ih =>
    intro z hok K0
    have hnx := rOk_2 hok
    have hok := rOk_1 hok
    have hf := L_h_withBlocks_15.eq_1 m x1 x5 z
    have hok := Eq.mp (K_h_withBlocks_15.eq_1 m x1 x5 z) hok
    refine x_iload C dX2_withBlocks_15 4 rfl ?_
    refine x_bipush (v := (8 : Int32)) C dX2_withBlocks_17 (by decide) ?_
    refine x_icmp_ge (tgt := 45) C dX2_withBlocks_19 (by decide) (fun c1 => ?_) (fun c1 => ?_)
    · have hf := hf.trans (if_pos c1)
      have hok := g_ip c1 hok
      exact K0 ((z.1, z.2)) (run_f hf)
    · have hf := hf.trans (if_neg c1)
      have hok := g_in c1 hok
      refine x_lload_n C dX2_withBlocks_22 rfl 2 rfl ?_
      refine x_aload_n C dX2_withBlocks_23 rfl 0 rfl ?_
      refine x_get (v := .ref (q 4)) C in_X2_withBlocks_2 0 rfl rfl 0 (by decide) k_X2_withBlocks_10 rfl rfl dX2_withBlocks_24 ?_
      refine x_iload C dX2_withBlocks_27 3 rfl ?_
      refine x_iload C dX2_withBlocks_29 4 rfl ?_
      have s2 := And.left hok
      have hok := And.right hok
      refine x_callVi (n := 2) C hq (gFr_pure gs_H_S_4_5) (c_s_blockProperty l G (g_sel [4, 5, 6, 7, 8, 9, 10, 11, 12, 13, 14, 15, 16, 17, 18, 19] q) (g_sel [4, 5, 6, 7, 8, 9, 10, 11, 12, 13, 14, 15, 16, 17, 18, 19] m) (g_sel [4, 5, 6, 7, 8, 9, 10, 11, 12, 13, 14, 15, 16, 17, 18, 19] h) x5 z.2 s2) (cwV 2 C.2.2.2.2.2.1 gX2_withBlocks_X1_blockProperty rfl rfl rfl (by decide +kernel) ⟨Nat.le_of_ble_eq_true rfl, Nat.le_of_ble_eq_true rfl⟩) rfl rfl rfl rfl (Nat.le_of_ble_eq_true rfl) dX2_withBlocks_31 (Nat.zero_le _) (Nat.zero_le _) ?_
      refine x_i2l C dX2_withBlocks_34 rfl ?_
      have s3 := And.left hok
      have hok := And.right hok
      refine x_callSl (n := 2) C hq (gFr_pure gs_H_0_) (c_h_mixed l G (g_sel [] q) (g_sel [] m) (g_sel [] h) z.1 ((f_s_blockProperty (g_sel [4, 5, 6, 7, 8, 9, 10, 11, 12, 13, 14, 15, 16, 17, 18, 19] m) x5 z.2).toInt64) s3) (va_cwS 2 C.2.2.2.2.2.1 gX2_withBlocks_X2_mixed rfl rfl rfl (by decide +kernel) ⟨Nat.le_of_ble_eq_true rfl, Nat.le_of_ble_eq_true rfl⟩) rfl rfl (Nat.le_of_ble_eq_true rfl) dX2_withBlocks_35 (Nat.zero_le _) (Nat.zero_le _) ?_
      obtain ⟨z4, hz4⟩ : ∃ y9 : Int64, y9 = (f_h_mixed z.1 ((f_s_blockProperty (g_sel [4, 5, 6, 7, 8, 9, 10, 11, 12, 13, 14, 15, 16, 17, 18, 19] m) x5 z.2).toInt64)) := ⟨_, rfl⟩
      have hf := hf.trans (g_let_eq hz4)
      have hok := g_let_p hz4 hok
      refine x_topl hz4 ?_
      refine x_lstore_n (lv' := [(0, .ref (q 0)), (1, .long x1), (3, .long z4), (5, .int x5), (6, .int z.2)]) C dX2_withBlocks_38 rfl (by decide) [1, 2, 0, 3, 4] rfl ?_
      obtain ⟨z5, hz5⟩ : ∃ y9 : Int32, y9 = (z.2 + (1 : Int32)) := ⟨_, rfl⟩
      have hf := hf.trans (g_let_eq hz5)
      have hok := g_let_p hz5 hok
      refine x_iinc (v := z5) (lv' := [(0, .ref (q 0)), (1, .long x1), (3, .long z4), (5, .int x5), (6, .int z5)]) C dX2_withBlocks_39 4 rfl hz5.symm (by decide) [1, 2, 3, 4, 0] rfl ?_
      refine x_goto (tgt := 15) C dX2_withBlocks_42 (by decide) ?_
      exact ih ((z4, z5)) (rOk_t hnx hf) (fun z' hz => K0 z' ((run_t hf).trans hz))
noncomputable def L_h_withBlocks_48 (m : gM) (x1 : Int64) (x5 : Int32) (z : Int64 × Int32) : Bool × (Int64 × Int32) := (if (8 : Int32) ≤ z.2 then (false, (z.1, z.2)) else g_let ((f_h_mixed z.1 ((m 10 ((x5 * (8 : Int32)) + z.2).toNatClampNeg).toInt64))) (fun z4 : Int64 => g_let ((z.2 + (1 : Int32))) (fun z5 : Int32 => (true, (z4, z5)))))
noncomputable def K_h_withBlocks_48 (m : gM) (x1 : Int64) (x5 : Int32) (z : Int64 × Int32) : Prop := (if (8 : Int32) ≤ z.2 then True else (vp_in ((x5 * (8 : Int32)) + z.2) 96) ∧ ((o_h_mixed z.1 ((m 10 ((x5 * (8 : Int32)) + z.2).toNatClampNeg).toInt64)) ∧ (g_let ((f_h_mixed z.1 ((m 10 ((x5 * (8 : Int32)) + z.2).toNatClampNeg).toInt64))) (fun z4 : Int64 => g_let ((z.2 + (1 : Int32))) (fun z5 : Int32 => True)))))
set_option maxRecDepth 100000 in
set_option maxHeartbeats 4000000 in
theorem lp_h_withBlocks_48 {p : Program} {l : Launch} {e : Env} {s : State} {m9 : MethodId} {args : Array Value} {below : List Frame} {meth : Method} {c : Code} {G : gG} {A : Nat → Prop} {Q : State → Prop} {q : Nat → Nat} (C : xC p s m9 args meth c G A 7 cX2_withBlocks RX2 wsX2_withBlocks) (hq : gD A q shH.length) (m : gM) (h : gN) (x1 : Int64) (x5 : Int32) : ∀ (n : Nat) (z : Int64 × Int32), rOk (L_h_withBlocks_48 m x1 x5) (K_h_withBlocks_48 m x1 x5) n z → (∀ z' : Int64 × Int32, run (L_h_withBlocks_48 m x1 x5) n z = z' → xJ p l e rm_h_withBlocks s m9 args below meth c G A 7 Q 0 0 shH q m h [(0, .ref (q 0)), (1, .long x1), (3, .long z'.1), (5, .int x5), (6, .int z'.2)] [] 83) → xJ p l e rm_h_withBlocks s m9 args below meth c G A 7 Q 0 0 shH q m h [(0, .ref (q 0)), (1, .long x1), (3, .long z.1), (5, .int x5), (6, .int z.2)] [] 48 := by
  intro n
  induction n with
  | zero =>
    intro z hok _
    exact rOk_0 hok
  | succ n ih =>
    intro z hok K0
    have hnx := rOk_2 hok
    have hok := rOk_1 hok
    have hf := L_h_withBlocks_48.eq_1 m x1 x5 z
    have hok := Eq.mp (K_h_withBlocks_48.eq_1 m x1 x5 z) hok
    refine x_iload C dX2_withBlocks_48 4 rfl ?_
    refine x_bipush (v := (8 : Int32)) C dX2_withBlocks_50 (by decide) ?_
    refine x_icmp_ge (tgt := 83) C dX2_withBlocks_52 (by decide) (fun c1 => ?_) (fun c1 => ?_)
    · have hf := hf.trans (if_pos c1)
      have hok := g_ip c1 hok
      exact K0 ((z.1, z.2)) (run_f hf)
    · have hf := hf.trans (if_neg c1)
      have hok := g_in c1 hok
      refine x_lload_n C dX2_withBlocks_55 rfl 2 rfl ?_
      refine x_aload_n C dX2_withBlocks_56 rfl 0 rfl ?_
      refine x_get (v := .ref (q 4)) C in_X2_withBlocks_2 0 rfl rfl 0 (by decide) k_X2_withBlocks_10 rfl rfl dX2_withBlocks_57 ?_
      refine x_get (v := .ref (q 10)) C in_X2_withBlocks_1 4 rfl rfl 5 (by decide) k_X2_withBlocks_159 rfl rfl dX2_withBlocks_60 ?_
      refine x_iload C dX2_withBlocks_63 3 rfl ?_
      refine x_bipush (v := (8 : Int32)) C dX2_withBlocks_65 (by decide) ?_
      refine x_imul C dX2_withBlocks_67 ?_
      refine x_iload C dX2_withBlocks_68 4 rfl ?_
      refine x_iadd C dX2_withBlocks_70 ?_
      have s2 := And.left hok
      have hok := And.right hok
      refine x_iald (n := 96) (v := (m 10 ((x5 * (8 : Int32)) + z.2).toNatClampNeg)) C 10 rfl s2 rfl dX2_withBlocks_71 ?_
      refine x_i2l C dX2_withBlocks_72 rfl ?_
      have s3 := And.left hok
      have hok := And.right hok
      refine x_callSl (n := 2) C hq (gFr_pure gs_H_0_) (c_h_mixed l G (g_sel [] q) (g_sel [] m) (g_sel [] h) z.1 ((m 10 ((x5 * (8 : Int32)) + z.2).toNatClampNeg).toInt64) s3) (va_cwS 2 C.2.2.2.2.2.1 gX2_withBlocks_X2_mixed rfl rfl rfl (by decide +kernel) ⟨Nat.le_of_ble_eq_true rfl, Nat.le_of_ble_eq_true rfl⟩) rfl rfl (Nat.le_of_ble_eq_true rfl) dX2_withBlocks_73 (Nat.zero_le _) (Nat.zero_le _) ?_
      obtain ⟨z4, hz4⟩ : ∃ y9 : Int64, y9 = (f_h_mixed z.1 ((m 10 ((x5 * (8 : Int32)) + z.2).toNatClampNeg).toInt64)) := ⟨_, rfl⟩
      have hf := hf.trans (g_let_eq hz4)
      have hok := g_let_p hz4 hok
      refine x_topl hz4 ?_
      refine x_lstore_n (lv' := [(0, .ref (q 0)), (1, .long x1), (3, .long z4), (5, .int x5), (6, .int z.2)]) C dX2_withBlocks_76 rfl (by decide) [1, 2, 0, 3, 4] rfl ?_
      obtain ⟨z5, hz5⟩ : ∃ y9 : Int32, y9 = (z.2 + (1 : Int32)) := ⟨_, rfl⟩
      have hf := hf.trans (g_let_eq hz5)
      have hok := g_let_p hz5 hok
      refine x_iinc (v := z5) (lv' := [(0, .ref (q 0)), (1, .long x1), (3, .long z4), (5, .int x5), (6, .int z5)]) C dX2_withBlocks_77 4 rfl hz5.symm (by decide) [1, 2, 3, 4, 0] rfl ?_
      refine x_goto (tgt := 48) C dX2_withBlocks_80 (by decide) ?_
      exact ih ((z4, z5)) (rOk_t hnx hf) (fun z' hz => K0 z' ((run_t hf).trans hz))
noncomputable def L_h_withBlocks_5 (m : gM) (x1 : Int64) (z : Int64 × Int32) : Bool × (Int64 × Int32) := (if (12 : Int32) ≤ z.2 then (false, (z.1, z.2)) else g_let (run (L_h_withBlocks_15 m x1 z.2) 400 ((z.1, (0 : Int32)))) (fun z3 : Int64 × Int32 => g_let (run (L_h_withBlocks_48 m x1 z.2) 400 ((z3.1, (0 : Int32)))) (fun z5 : Int64 × Int32 => g_let ((z.2 + (1 : Int32))) (fun z6 : Int32 => (true, (z5.1, z6))))))
noncomputable def K_h_withBlocks_5 (m : gM) (x1 : Int64) (z : Int64 × Int32) : Prop := (if (12 : Int32) ≤ z.2 then True else (rOk (L_h_withBlocks_15 m x1 z.2) (K_h_withBlocks_15 m x1 z.2) 400 ((z.1, (0 : Int32)))) ∧ (g_let (run (L_h_withBlocks_15 m x1 z.2) 400 ((z.1, (0 : Int32)))) (fun z3 : Int64 × Int32 => (rOk (L_h_withBlocks_48 m x1 z.2) (K_h_withBlocks_48 m x1 z.2) 400 ((z3.1, (0 : Int32)))) ∧ (g_let (run (L_h_withBlocks_48 m x1 z.2) 400 ((z3.1, (0 : Int32)))) (fun z5 : Int64 × Int32 => g_let ((z.2 + (1 : Int32))) (fun z6 : Int32 => True))))))
set_option maxRecDepth 100000 in
set_option maxHeartbeats 4000000 in
theorem lp_h_withBlocks_5 {p : Program} {l : Launch} {e : Env} {s : State} {m9 : MethodId} {args : Array Value} {below : List Frame} {meth : Method} {c : Code} {G : gG} {A : Nat → Prop} {Q : State → Prop} {q : Nat → Nat} (C : xC p s m9 args meth c G A 7 cX2_withBlocks RX2 wsX2_withBlocks) (hq : gD A q shH.length) (m : gM) (h : gN) (x1 : Int64) : ∀ (n : Nat) (z : Int64 × Int32), rOk (L_h_withBlocks_5 m x1) (K_h_withBlocks_5 m x1) n z → (∀ z' : Int64 × Int32, run (L_h_withBlocks_5 m x1) n z = z' → xJ p l e rm_h_withBlocks s m9 args below meth c G A 7 Q 0 0 shH q m h [(0, .ref (q 0)), (1, .long x1), (3, .long z'.1), (5, .int z'.2)] [] 89) → xJ p l e rm_h_withBlocks s m9 args below meth c G A 7 Q 0 0 shH q m h [(0, .ref (q 0)), (1, .long x1), (3, .long z.1), (5, .int z.2)] [] 5 := by
  intro n
  induction n with
  | zero =>
    intro z hok _
    exact rOk_0 hok
  | succ n ih =>
    intro z hok K0
    have hnx := rOk_2 hok
    have hok := rOk_1 hok
    have hf := L_h_withBlocks_5.eq_1 m x1 z
    have hok := Eq.mp (K_h_withBlocks_5.eq_1 m x1 z) hok
    refine x_iload C dX2_withBlocks_5 3 rfl ?_
    refine x_bipush (v := (12 : Int32)) C dX2_withBlocks_7 (by decide) ?_
    refine x_icmp_ge (tgt := 89) C dX2_withBlocks_9 (by decide) (fun c1 => ?_) (fun c1 => ?_)
    · have hf := hf.trans (if_pos c1)
      have hok := g_ip c1 hok
      exact K0 ((z.1, z.2)) (run_f hf)
    · have hf := hf.trans (if_neg c1)
      have hok := g_in c1 hok
      refine x_iconst (v := (0 : Int32)) C dX2_withBlocks_12 (by decide) ?_
      refine x_istore (lv' := [(0, .ref (q 0)), (1, .long x1), (3, .long z.1), (5, .int z.2), (6, .int (0 : Int32))]) C dX2_withBlocks_13 (by decide) [1, 2, 3, 4, 0] rfl ?_
      have s2 := And.left hok
      have hok := And.right hok
      refine lp_h_withBlocks_15 C hq m h x1 z.2 400 ((z.1, (0 : Int32))) s2 (fun z3 hz3 => ?_)
      have hf := hf.trans (g_let_eq hz3.symm)
      have hok := g_let_p hz3.symm hok
      refine x_iconst (v := (0 : Int32)) C dX2_withBlocks_45 (by decide) ?_
      refine x_istore (lv' := [(0, .ref (q 0)), (1, .long x1), (3, .long z3.1), (5, .int z.2), (6, .int (0 : Int32))]) C dX2_withBlocks_46 (by decide) [1, 2, 3, 4, 0] rfl ?_
      have s4 := And.left hok
      have hok := And.right hok
      refine lp_h_withBlocks_48 C hq m h x1 z.2 400 ((z3.1, (0 : Int32))) s4 (fun z5 hz5 => ?_)
      have hf := hf.trans (g_let_eq hz5.symm)
      have hok := g_let_p hz5.symm hok
      obtain ⟨z6, hz6⟩ : ∃ y9 : Int32, y9 = (z.2 + (1 : Int32)) := ⟨_, rfl⟩
      have hf := hf.trans (g_let_eq hz6)
      have hok := g_let_p hz6 hok
      refine x_iinc (v := z6) (lv' := [(0, .ref (q 0)), (1, .long x1), (3, .long z5.1), (5, .int z6), (6, .int z5.2)]) C dX2_withBlocks_83 3 rfl hz6.symm (by decide) [1, 2, 3, 0, 4] rfl ?_
      refine x_goto (tgt := 5) C dX2_withBlocks_86 (by decide) ?_
      refine x_lv (lv' := [(0, .ref (q 0)), (1, .long x1), (3, .long z5.1), (5, .int z6)]) [0, 1, 2, 3] rfl ?_
      exact ih ((z5.1, z6)) (rOk_t hnx hf) (fun z' hz => K0 z' ((run_t hf).trans hz))
noncomputable def f_h_withBlocks (m : gM) (a1 : Int64) : Int64 := g_let (run (L_h_withBlocks_5 m a1) 400 ((a1, (0 : Int32)))) (fun z2 : Int64 × Int32 => z2.1)
noncomputable def o_h_withBlocks (m : gM) (a1 : Int64) : Prop := (rOk (L_h_withBlocks_5 m a1) (K_h_withBlocks_5 m a1) 400 ((a1, (0 : Int32)))) ∧ (g_let (run (L_h_withBlocks_5 m a1) 400 ((a1, (0 : Int32)))) (fun z2 : Int64 × Int32 => True))
set_option maxRecDepth 100000 in
set_option maxHeartbeats 4000000 in
theorem c_h_withBlocks (l : Launch) (G : gG) (q : Nat → Nat) (m : gM) (h : gN) (a1 : Int64) (hok : o_h_withBlocks m a1) : gMl l yX2_withBlocks wsX2_withBlocks rm_h_withBlocks G shH q m h [.ref (q 0), .long a1] m h (f_h_withBlocks m a1) := by
  intro sz
  refine g_met (cc := cX2_withBlocks) (maxL := 7) (ret := (some .long)) (own := RX2) (Qc := fun sz => gQl G shH q m h sz (f_h_withBlocks m a1)) (by decide) rfl rfl (Nat.le_of_ble_eq_true rfl) (fun p e s m9 below meth c C hq hr => ?_)
  refine x_lv (lv' := [(0, .ref (q 0)), (1, .long a1)]) [0, 1] rfl ?_
  have hf := f_h_withBlocks.eq_1 m a1
  have hok := Eq.mp (o_h_withBlocks.eq_1 m a1) hok
  refine x_lload_n C dX2_withBlocks_0 rfl 1 rfl ?_
  refine x_lstore_n (lv' := [(0, .ref (q 0)), (1, .long a1), (3, .long a1)]) C dX2_withBlocks_1 rfl (by decide) [1, 2, 0] rfl ?_
  refine x_iconst (v := (0 : Int32)) C dX2_withBlocks_2 (by decide) ?_
  refine x_istore (lv' := [(0, .ref (q 0)), (1, .long a1), (3, .long a1), (5, .int (0 : Int32))]) C dX2_withBlocks_3 (by decide) [1, 2, 3, 0] rfl ?_
  have s1 := And.left hok
  have hok := And.right hok
  refine lp_h_withBlocks_5 C hq m h a1 400 ((a1, (0 : Int32))) s1 (fun z2 hz2 => ?_)
  have hf := hf.trans (g_let_eq hz2.symm)
  have hok := g_let_p hz2.symm hok
  refine x_lload_n C dX2_withBlocks_89 rfl 2 rfl ?_
  exact g_lret C hr dX2_withBlocks_90 hf.symm rfl rfl
set_option maxRecDepth 20000 in
theorem in_X2_withStreams_2 : ∀ w ∈ u_ws RX2 TX2 7, w ∈ wsX2_withStreams := by decide +kernel
set_option maxRecDepth 20000 in
theorem k_X2_withStreams_10 : Cond.fieldLink RX2 10 "HintedPages" "store" "LHintedPages$Store;" ∈ wsX2_withStreams := by decide +kernel
abbrev rm_h_withStreams : Room := { frames := 3, cells := 0, slots := 0, locals := 66 }
noncomputable def L_h_withStreams_14 (m : gM) (x1 : Int64) (x5 : Int32) (z : Int64 × Int32) : Bool × (Int64 × Int32) := (if (5 : Int32) ≤ z.2 then (false, (z.1, z.2)) else g_let ((f_h_mixed z.1 ((f_s_streamProperty (g_sel [4, 5, 6, 7, 8, 9, 10, 11, 12, 13, 14, 15, 16, 17, 18, 19] m) x5 z.2).toInt64))) (fun z4 : Int64 => g_let ((z.2 + (1 : Int32))) (fun z5 : Int32 => (true, (z4, z5)))))
noncomputable def K_h_withStreams_14 (m : gM) (x1 : Int64) (x5 : Int32) (z : Int64 × Int32) : Prop := (if (5 : Int32) ≤ z.2 then True else (o_s_streamProperty (g_sel [4, 5, 6, 7, 8, 9, 10, 11, 12, 13, 14, 15, 16, 17, 18, 19] m) x5 z.2) ∧ ((o_h_mixed z.1 ((f_s_streamProperty (g_sel [4, 5, 6, 7, 8, 9, 10, 11, 12, 13, 14, 15, 16, 17, 18, 19] m) x5 z.2).toInt64)) ∧ (g_let ((f_h_mixed z.1 ((f_s_streamProperty (g_sel [4, 5, 6, 7, 8, 9, 10, 11, 12, 13, 14, 15, 16, 17, 18, 19] m) x5 z.2).toInt64))) (fun z4 : Int64 => g_let ((z.2 + (1 : Int32))) (fun z5 : Int32 => True)))))
set_option maxRecDepth 100000 in
set_option maxHeartbeats 4000000 in
theorem lp_h_withStreams_14 {p : Program} {l : Launch} {e : Env} {s : State} {m9 : MethodId} {args : Array Value} {below : List Frame} {meth : Method} {c : Code} {G : gG} {A : Nat → Prop} {Q : State → Prop} {q : Nat → Nat} (C : xC p s m9 args meth c G A 7 cX2_withStreams RX2 wsX2_withStreams) (hq : gD A q shH.length) (m : gM) (h : gN) (x1 : Int64) (x5 : Int32) : ∀ (n : Nat) (z : Int64 × Int32), rOk (L_h_withStreams_14 m x1 x5) (K_h_withStreams_14 m x1 x5) n z → (∀ z' : Int64 × Int32, run (L_h_withStreams_14 m x1 x5) n z = z' → xJ p l e rm_h_withStreams s m9 args below meth c G A 7 Q 0 0 shH q m h [(0, .ref (q 0)), (1, .long x1), (3, .long z'.1), (5, .int x5), (6, .int z'.2)] [] 43) → xJ p l e rm_h_withStreams s m9 args below meth c G A 7 Q 0 0 shH q m h [(0, .ref (q 0)), (1, .long x1), (3, .long z.1), (5, .int x5), (6, .int z.2)] [] 14 := by
  intro n
  induction n with
  | zero =>
    intro z hok _
    exact rOk_0 hok
  | succ n ih =>
    intro z hok K0
    have hnx := rOk_2 hok
    have hok := rOk_1 hok
    have hf := L_h_withStreams_14.eq_1 m x1 x5 z
    have hok := Eq.mp (K_h_withStreams_14.eq_1 m x1 x5 z) hok
    refine x_iload C dX2_withStreams_14 4 rfl ?_
    refine x_iconst (v := (5 : Int32)) C dX2_withStreams_16 (by decide) ?_
    refine x_icmp_ge (tgt := 43) C dX2_withStreams_17 (by decide) (fun c1 => ?_) (fun c1 => ?_)
    · have hf := hf.trans (if_pos c1)
      have hok := g_ip c1 hok
      exact K0 ((z.1, z.2)) (run_f hf)
    · have hf := hf.trans (if_neg c1)
      have hok := g_in c1 hok
      refine x_lload_n C dX2_withStreams_20 rfl 2 rfl ?_
      refine x_aload_n C dX2_withStreams_21 rfl 0 rfl ?_
      refine x_get (v := .ref (q 4)) C in_X2_withStreams_2 0 rfl rfl 0 (by decide) k_X2_withStreams_10 rfl rfl dX2_withStreams_22 ?_
      refine x_iload C dX2_withStreams_25 3 rfl ?_
      refine x_iload C dX2_withStreams_27 4 rfl ?_
      have s2 := And.left hok
      have hok := And.right hok
      refine x_callVi (n := 2) C hq (gFr_pure gs_H_S_4_5) (c_s_streamProperty l G (g_sel [4, 5, 6, 7, 8, 9, 10, 11, 12, 13, 14, 15, 16, 17, 18, 19] q) (g_sel [4, 5, 6, 7, 8, 9, 10, 11, 12, 13, 14, 15, 16, 17, 18, 19] m) (g_sel [4, 5, 6, 7, 8, 9, 10, 11, 12, 13, 14, 15, 16, 17, 18, 19] h) x5 z.2 s2) (cwV 2 C.2.2.2.2.2.1 gX2_withStreams_X1_streamProperty rfl rfl rfl (by decide +kernel) ⟨Nat.le_of_ble_eq_true rfl, Nat.le_of_ble_eq_true rfl⟩) rfl rfl rfl rfl (Nat.le_of_ble_eq_true rfl) dX2_withStreams_29 (Nat.zero_le _) (Nat.zero_le _) ?_
      refine x_i2l C dX2_withStreams_32 rfl ?_
      have s3 := And.left hok
      have hok := And.right hok
      refine x_callSl (n := 2) C hq (gFr_pure gs_H_0_) (c_h_mixed l G (g_sel [] q) (g_sel [] m) (g_sel [] h) z.1 ((f_s_streamProperty (g_sel [4, 5, 6, 7, 8, 9, 10, 11, 12, 13, 14, 15, 16, 17, 18, 19] m) x5 z.2).toInt64) s3) (va_cwS 2 C.2.2.2.2.2.1 gX2_withStreams_X2_mixed rfl rfl rfl (by decide +kernel) ⟨Nat.le_of_ble_eq_true rfl, Nat.le_of_ble_eq_true rfl⟩) rfl rfl (Nat.le_of_ble_eq_true rfl) dX2_withStreams_33 (Nat.zero_le _) (Nat.zero_le _) ?_
      obtain ⟨z4, hz4⟩ : ∃ y9 : Int64, y9 = (f_h_mixed z.1 ((f_s_streamProperty (g_sel [4, 5, 6, 7, 8, 9, 10, 11, 12, 13, 14, 15, 16, 17, 18, 19] m) x5 z.2).toInt64)) := ⟨_, rfl⟩
      have hf := hf.trans (g_let_eq hz4)
      have hok := g_let_p hz4 hok
      refine x_topl hz4 ?_
      refine x_lstore_n (lv' := [(0, .ref (q 0)), (1, .long x1), (3, .long z4), (5, .int x5), (6, .int z.2)]) C dX2_withStreams_36 rfl (by decide) [1, 2, 0, 3, 4] rfl ?_
      obtain ⟨z5, hz5⟩ : ∃ y9 : Int32, y9 = (z.2 + (1 : Int32)) := ⟨_, rfl⟩
      have hf := hf.trans (g_let_eq hz5)
      have hok := g_let_p hz5 hok
      refine x_iinc (v := z5) (lv' := [(0, .ref (q 0)), (1, .long x1), (3, .long z4), (5, .int x5), (6, .int z5)]) C dX2_withStreams_37 4 rfl hz5.symm (by decide) [1, 2, 3, 4, 0] rfl ?_
      refine x_goto (tgt := 14) C dX2_withStreams_40 (by decide) ?_
      exact ih ((z4, z5)) (rOk_t hnx hf) (fun z' hz => K0 z' ((run_t hf).trans hz))
noncomputable def L_h_withStreams_5 (m : gM) (x1 : Int64) (z : Int64 × Int32) : Bool × (Int64 × Int32) := (if (5 : Int32) ≤ z.2 then (false, (z.1, z.2)) else g_let (run (L_h_withStreams_14 m x1 z.2) 400 ((z.1, (0 : Int32)))) (fun z3 : Int64 × Int32 => g_let ((z.2 + (1 : Int32))) (fun z4 : Int32 => (true, (z3.1, z4)))))
noncomputable def K_h_withStreams_5 (m : gM) (x1 : Int64) (z : Int64 × Int32) : Prop := (if (5 : Int32) ≤ z.2 then True else (rOk (L_h_withStreams_14 m x1 z.2) (K_h_withStreams_14 m x1 z.2) 400 ((z.1, (0 : Int32)))) ∧ (g_let (run (L_h_withStreams_14 m x1 z.2) 400 ((z.1, (0 : Int32)))) (fun z3 : Int64 × Int32 => g_let ((z.2 + (1 : Int32))) (fun z4 : Int32 => True))))
set_option maxRecDepth 100000 in
set_option maxHeartbeats 4000000 in
theorem lp_h_withStreams_5 {p : Program} {l : Launch} {e : Env} {s : State} {m9 : MethodId} {args : Array Value} {below : List Frame} {meth : Method} {c : Code} {G : gG} {A : Nat → Prop} {Q : State → Prop} {q : Nat → Nat} (C : xC p s m9 args meth c G A 7 cX2_withStreams RX2 wsX2_withStreams) (hq : gD A q shH.length) (m : gM) (h : gN) (x1 : Int64) : ∀ (n : Nat) (z : Int64 × Int32), rOk (L_h_withStreams_5 m x1) (K_h_withStreams_5 m x1) n z → (∀ z' : Int64 × Int32, run (L_h_withStreams_5 m x1) n z = z' → xJ p l e rm_h_withStreams s m9 args below meth c G A 7 Q 0 0 shH q m h [(0, .ref (q 0)), (1, .long x1), (3, .long z'.1), (5, .int z'.2)] [] 49) → xJ p l e rm_h_withStreams s m9 args below meth c G A 7 Q 0 0 shH q m h [(0, .ref (q 0)), (1, .long x1), (3, .long z.1), (5, .int z.2)] [] 5 := by
  intro n
  induction n with
  | zero =>
    intro z hok _
    exact rOk_0 hok
  | succ n ih =>
    intro z hok K0
    have hnx := rOk_2 hok
    have hok := rOk_1 hok
    have hf := L_h_withStreams_5.eq_1 m x1 z
    have hok := Eq.mp (K_h_withStreams_5.eq_1 m x1 z) hok
    refine x_iload C dX2_withStreams_5 3 rfl ?_
    refine x_iconst (v := (5 : Int32)) C dX2_withStreams_7 (by decide) ?_
    refine x_icmp_ge (tgt := 49) C dX2_withStreams_8 (by decide) (fun c1 => ?_) (fun c1 => ?_)
    · have hf := hf.trans (if_pos c1)
      have hok := g_ip c1 hok
      exact K0 ((z.1, z.2)) (run_f hf)
    · have hf := hf.trans (if_neg c1)
      have hok := g_in c1 hok
      refine x_iconst (v := (0 : Int32)) C dX2_withStreams_11 (by decide) ?_
      refine x_istore (lv' := [(0, .ref (q 0)), (1, .long x1), (3, .long z.1), (5, .int z.2), (6, .int (0 : Int32))]) C dX2_withStreams_12 (by decide) [1, 2, 3, 4, 0] rfl ?_
      have s2 := And.left hok
      have hok := And.right hok
      refine lp_h_withStreams_14 C hq m h x1 z.2 400 ((z.1, (0 : Int32))) s2 (fun z3 hz3 => ?_)
      have hf := hf.trans (g_let_eq hz3.symm)
      have hok := g_let_p hz3.symm hok
      obtain ⟨z4, hz4⟩ : ∃ y9 : Int32, y9 = (z.2 + (1 : Int32)) := ⟨_, rfl⟩
      have hf := hf.trans (g_let_eq hz4)
      have hok := g_let_p hz4 hok
      refine x_iinc (v := z4) (lv' := [(0, .ref (q 0)), (1, .long x1), (3, .long z3.1), (5, .int z4), (6, .int z3.2)]) C dX2_withStreams_43 3 rfl hz4.symm (by decide) [1, 2, 3, 0, 4] rfl ?_
      refine x_goto (tgt := 5) C dX2_withStreams_46 (by decide) ?_
      refine x_lv (lv' := [(0, .ref (q 0)), (1, .long x1), (3, .long z3.1), (5, .int z4)]) [0, 1, 2, 3] rfl ?_
      exact ih ((z3.1, z4)) (rOk_t hnx hf) (fun z' hz => K0 z' ((run_t hf).trans hz))
noncomputable def f_h_withStreams (m : gM) (a1 : Int64) : Int64 := g_let (run (L_h_withStreams_5 m a1) 400 ((a1, (0 : Int32)))) (fun z2 : Int64 × Int32 => z2.1)
noncomputable def o_h_withStreams (m : gM) (a1 : Int64) : Prop := (rOk (L_h_withStreams_5 m a1) (K_h_withStreams_5 m a1) 400 ((a1, (0 : Int32)))) ∧ (g_let (run (L_h_withStreams_5 m a1) 400 ((a1, (0 : Int32)))) (fun z2 : Int64 × Int32 => True))
set_option maxRecDepth 100000 in
set_option maxHeartbeats 4000000 in
theorem c_h_withStreams (l : Launch) (G : gG) (q : Nat → Nat) (m : gM) (h : gN) (a1 : Int64) (hok : o_h_withStreams m a1) : gMl l yX2_withStreams wsX2_withStreams rm_h_withStreams G shH q m h [.ref (q 0), .long a1] m h (f_h_withStreams m a1) := by
  intro sz
  refine g_met (cc := cX2_withStreams) (maxL := 7) (ret := (some .long)) (own := RX2) (Qc := fun sz => gQl G shH q m h sz (f_h_withStreams m a1)) (by decide) rfl rfl (Nat.le_of_ble_eq_true rfl) (fun p e s m9 below meth c C hq hr => ?_)
  refine x_lv (lv' := [(0, .ref (q 0)), (1, .long a1)]) [0, 1] rfl ?_
  have hf := f_h_withStreams.eq_1 m a1
  have hok := Eq.mp (o_h_withStreams.eq_1 m a1) hok
  refine x_lload_n C dX2_withStreams_0 rfl 1 rfl ?_
  refine x_lstore_n (lv' := [(0, .ref (q 0)), (1, .long a1), (3, .long a1)]) C dX2_withStreams_1 rfl (by decide) [1, 2, 0] rfl ?_
  refine x_iconst (v := (0 : Int32)) C dX2_withStreams_2 (by decide) ?_
  refine x_istore (lv' := [(0, .ref (q 0)), (1, .long a1), (3, .long a1), (5, .int (0 : Int32))]) C dX2_withStreams_3 (by decide) [1, 2, 3, 0] rfl ?_
  have s1 := And.left hok
  have hok := And.right hok
  refine lp_h_withStreams_5 C hq m h a1 400 ((a1, (0 : Int32))) s1 (fun z2 hz2 => ?_)
  have hf := hf.trans (g_let_eq hz2.symm)
  have hok := g_let_p hz2.symm hok
  refine x_lload_n C dX2_withStreams_49 rfl 2 rfl ?_
  exact g_lret C hr dX2_withStreams_50 hf.symm rfl rfl
abbrev rm_h_withForecasts : Room := { frames := 5, cells := 0, slots := 0, locals := 115 }
noncomputable def L_h_withForecasts_21 (m : gM) (x1 : Int64) (x5 : Int32) (z : Int64 × Int32) : Bool × (Int64 × Int32) := (if (3 : Int32) ≤ z.2 then (false, (z.1, z.2)) else g_let ((f_h_mixed z.1 ((f_h_forecast m (0 : Int32) z.2).toInt64))) (fun z4 : Int64 => g_let ((z.2 + (1 : Int32))) (fun z5 : Int32 => (true, (z4, z5)))))
noncomputable def K_h_withForecasts_21 (m : gM) (x1 : Int64) (x5 : Int32) (z : Int64 × Int32) : Prop := (if (3 : Int32) ≤ z.2 then True else (o_h_forecast m (0 : Int32) z.2) ∧ ((o_h_mixed z.1 ((f_h_forecast m (0 : Int32) z.2).toInt64)) ∧ (g_let ((f_h_mixed z.1 ((f_h_forecast m (0 : Int32) z.2).toInt64))) (fun z4 : Int64 => g_let ((z.2 + (1 : Int32))) (fun z5 : Int32 => True)))))
set_option maxRecDepth 100000 in
set_option maxHeartbeats 4000000 in
theorem lp_h_withForecasts_21 {p : Program} {l : Launch} {e : Env} {s : State} {m9 : MethodId} {args : Array Value} {below : List Frame} {meth : Method} {c : Code} {G : gG} {A : Nat → Prop} {Q : State → Prop} {q : Nat → Nat} (C : xC p s m9 args meth c G A 7 cX2_withForecasts RX2 wsX2_withForecasts) (hq : gD A q shH.length) (m : gM) (h : gN) (x1 : Int64) (x5 : Int32) : ∀ (n : Nat) (z : Int64 × Int32), rOk (L_h_withForecasts_21 m x1 x5) (K_h_withForecasts_21 m x1 x5) n z → (∀ z' : Int64 × Int32, run (L_h_withForecasts_21 m x1 x5) n z = z' → xJ p l e rm_h_withForecasts s m9 args below meth c G A 7 Q 0 0 shH q m h [(0, .ref (q 0)), (1, .long x1), (3, .long z'.1), (5, .int x5), (6, .int z'.2)] [] 46) → xJ p l e rm_h_withForecasts s m9 args below meth c G A 7 Q 0 0 shH q m h [(0, .ref (q 0)), (1, .long x1), (3, .long z.1), (5, .int x5), (6, .int z.2)] [] 21 := by
  intro n
  induction n with
  | zero =>
    intro z hok _
    exact rOk_0 hok
  | succ n ih =>
    intro z hok K0
    have hnx := rOk_2 hok
    have hok := rOk_1 hok
    have hf := L_h_withForecasts_21.eq_1 m x1 x5 z
    have hok := Eq.mp (K_h_withForecasts_21.eq_1 m x1 x5 z) hok
    refine x_iload C dX2_withForecasts_21 4 rfl ?_
    refine x_iconst (v := (3 : Int32)) C dX2_withForecasts_23 (by decide) ?_
    refine x_icmp_ge (tgt := 46) C dX2_withForecasts_24 (by decide) (fun c1 => ?_) (fun c1 => ?_)
    · have hf := hf.trans (if_pos c1)
      have hok := g_ip c1 hok
      exact K0 ((z.1, z.2)) (run_f hf)
    · have hf := hf.trans (if_neg c1)
      have hok := g_in c1 hok
      refine x_lload_n C dX2_withForecasts_27 rfl 2 rfl ?_
      refine x_aload_n C dX2_withForecasts_28 rfl 0 rfl ?_
      refine x_iconst (v := (0 : Int32)) C dX2_withForecasts_29 (by decide) ?_
      refine x_iload C dX2_withForecasts_30 4 rfl ?_
      have s2 := And.left hok
      have hok := And.right hok
      refine x_callVi (n := 2) C hq gFr_same (c_h_forecast l G q m h (0 : Int32) z.2 s2) (cwV 2 C.2.2.2.2.2.1 gX2_withForecasts_X2_forecast rfl rfl rfl (by decide +kernel) ⟨Nat.le_of_ble_eq_true rfl, Nat.le_of_ble_eq_true rfl⟩) rfl rfl rfl rfl (Nat.le_of_ble_eq_true rfl) dX2_withForecasts_32 (Nat.zero_le _) (Nat.zero_le _) ?_
      refine x_i2l C dX2_withForecasts_35 rfl ?_
      have s3 := And.left hok
      have hok := And.right hok
      refine x_callSl (n := 2) C hq (gFr_pure gs_H_0_) (c_h_mixed l G (g_sel [] q) (g_sel [] m) (g_sel [] h) z.1 ((f_h_forecast m (0 : Int32) z.2).toInt64) s3) (va_cwS 2 C.2.2.2.2.2.1 gX2_withForecasts_X2_mixed rfl rfl rfl (by decide +kernel) ⟨Nat.le_of_ble_eq_true rfl, Nat.le_of_ble_eq_true rfl⟩) rfl rfl (Nat.le_of_ble_eq_true rfl) dX2_withForecasts_36 (Nat.zero_le _) (Nat.zero_le _) ?_
      obtain ⟨z4, hz4⟩ : ∃ y9 : Int64, y9 = (f_h_mixed z.1 ((f_h_forecast m (0 : Int32) z.2).toInt64)) := ⟨_, rfl⟩
      have hf := hf.trans (g_let_eq hz4)
      have hok := g_let_p hz4 hok
      refine x_topl hz4 ?_
      refine x_lstore_n (lv' := [(0, .ref (q 0)), (1, .long x1), (3, .long z4), (5, .int x5), (6, .int z.2)]) C dX2_withForecasts_39 rfl (by decide) [1, 2, 0, 3, 4] rfl ?_
      obtain ⟨z5, hz5⟩ : ∃ y9 : Int32, y9 = (z.2 + (1 : Int32)) := ⟨_, rfl⟩
      have hf := hf.trans (g_let_eq hz5)
      have hok := g_let_p hz5 hok
      refine x_iinc (v := z5) (lv' := [(0, .ref (q 0)), (1, .long x1), (3, .long z4), (5, .int x5), (6, .int z5)]) C dX2_withForecasts_40 4 rfl hz5.symm (by decide) [1, 2, 3, 4, 0] rfl ?_
      refine x_goto (tgt := 21) C dX2_withForecasts_43 (by decide) ?_
      exact ih ((z4, z5)) (rOk_t hnx hf) (fun z' hz => K0 z' ((run_t hf).trans hz))
noncomputable def L_h_withForecasts_5 (x1 : Int64) (z : Int64 × Int32 × gM) : Bool × (Int64 × Int32 × gM) := (if (4 : Int32) ≤ z.2.1 then (false, (z.1, z.2.1, z.2.2)) else g_let (f_h_tryWriting z.2.2 (0 : Int32) z.2.1) (fun z3 : gM => g_let (run (L_h_withForecasts_21 z3 x1 z.2.1) 400 ((z.1, (0 : Int32)))) (fun z5 : Int64 × Int32 => g_let ((z.2.1 + (1 : Int32))) (fun z6 : Int32 => (true, (z5.1, z6, z3))))))
noncomputable def K_h_withForecasts_5 (x1 : Int64) (z : Int64 × Int32 × gM) : Prop := (if (4 : Int32) ≤ z.2.1 then True else (o_h_tryWriting z.2.2 (0 : Int32) z.2.1) ∧ (g_let (f_h_tryWriting z.2.2 (0 : Int32) z.2.1) (fun z3 : gM => (rOk (L_h_withForecasts_21 z3 x1 z.2.1) (K_h_withForecasts_21 z3 x1 z.2.1) 400 ((z.1, (0 : Int32)))) ∧ (g_let (run (L_h_withForecasts_21 z3 x1 z.2.1) 400 ((z.1, (0 : Int32)))) (fun z5 : Int64 × Int32 => g_let ((z.2.1 + (1 : Int32))) (fun z6 : Int32 => True))))))
set_option maxRecDepth 100000 in
set_option maxHeartbeats 4000000 in
theorem lp_h_withForecasts_5 {p : Program} {l : Launch} {e : Env} {s : State} {m9 : MethodId} {args : Array Value} {below : List Frame} {meth : Method} {c : Code} {G : gG} {A : Nat → Prop} {Q : State → Prop} {q : Nat → Nat} (C : xC p s m9 args meth c G A 7 cX2_withForecasts RX2 wsX2_withForecasts) (hq : gD A q shH.length) (h : gN) (x1 : Int64) : ∀ (n : Nat) (z : Int64 × Int32 × gM), rOk (L_h_withForecasts_5 x1) (K_h_withForecasts_5 x1) n z → (∀ z' : Int64 × Int32 × gM, run (L_h_withForecasts_5 x1) n z = z' → xJ p l e rm_h_withForecasts s m9 args below meth c G A 7 Q 0 0 shH q z'.2.2 h [(0, .ref (q 0)), (1, .long x1), (3, .long z'.1), (5, .int z'.2.1)] [] 52) → xJ p l e rm_h_withForecasts s m9 args below meth c G A 7 Q 0 0 shH q z.2.2 h [(0, .ref (q 0)), (1, .long x1), (3, .long z.1), (5, .int z.2.1)] [] 5 := by
  intro n
  induction n with
  | zero =>
    intro z hok _
    exact rOk_0 hok
  | succ n ih =>
    intro z hok K0
    have hnx := rOk_2 hok
    have hok := rOk_1 hok
    have hf := L_h_withForecasts_5.eq_1 x1 z
    have hok := Eq.mp (K_h_withForecasts_5.eq_1 x1 z) hok
    refine x_iload C dX2_withForecasts_5 3 rfl ?_
    refine x_iconst (v := (4 : Int32)) C dX2_withForecasts_7 (by decide) ?_
    refine x_icmp_ge (tgt := 52) C dX2_withForecasts_8 (by decide) (fun c1 => ?_) (fun c1 => ?_)
    · have hf := hf.trans (if_pos c1)
      have hok := g_ip c1 hok
      exact K0 ((z.1, z.2.1, z.2.2)) (run_f hf)
    · have hf := hf.trans (if_neg c1)
      have hok := g_in c1 hok
      refine x_aload_n C dX2_withForecasts_11 rfl 0 rfl ?_
      refine x_iconst (v := (0 : Int32)) C dX2_withForecasts_12 (by decide) ?_
      refine x_iload C dX2_withForecasts_13 3 rfl ?_
      have s2 := And.left hok
      have hok := And.right hok
      obtain ⟨z3, hz3⟩ : ∃ y9 : gM, y9 = f_h_tryWriting z.2.2 (0 : Int32) z.2.1 := ⟨_, rfl⟩
      have hf := hf.trans (g_let_eq hz3)
      have hok := g_let_p hz3 hok
      have hmz3 : gMv l yX2_tryWriting wsX2_tryWriting rm_h_tryWriting G shH q z.2.2 h [.ref (q 0), .int (0 : Int32), .int z.2.1] z3 h := by rw [hz3]; exact c_h_tryWriting l G q z.2.2 h (0 : Int32) z.2.1 s2
      refine x_callVv (n := 2) C hq gFr_same (hmz3) (cwV 2 C.2.2.2.2.2.1 gX2_withForecasts_X2_tryWriting rfl rfl rfl (by decide +kernel) ⟨Nat.le_of_ble_eq_true rfl, Nat.le_of_ble_eq_true rfl⟩) rfl rfl rfl rfl (Nat.le_of_ble_eq_true rfl) dX2_withForecasts_15 (Nat.zero_le _) (Nat.zero_le _) ?_
      refine x_iconst (v := (0 : Int32)) C dX2_withForecasts_18 (by decide) ?_
      refine x_istore (lv' := [(0, .ref (q 0)), (1, .long x1), (3, .long z.1), (5, .int z.2.1), (6, .int (0 : Int32))]) C dX2_withForecasts_19 (by decide) [1, 2, 3, 4, 0] rfl ?_
      have s4 := And.left hok
      have hok := And.right hok
      refine lp_h_withForecasts_21 C hq z3 h x1 z.2.1 400 ((z.1, (0 : Int32))) s4 (fun z5 hz5 => ?_)
      have hf := hf.trans (g_let_eq hz5.symm)
      have hok := g_let_p hz5.symm hok
      obtain ⟨z6, hz6⟩ : ∃ y9 : Int32, y9 = (z.2.1 + (1 : Int32)) := ⟨_, rfl⟩
      have hf := hf.trans (g_let_eq hz6)
      have hok := g_let_p hz6 hok
      refine x_iinc (v := z6) (lv' := [(0, .ref (q 0)), (1, .long x1), (3, .long z5.1), (5, .int z6), (6, .int z5.2)]) C dX2_withForecasts_46 3 rfl hz6.symm (by decide) [1, 2, 3, 0, 4] rfl ?_
      refine x_goto (tgt := 5) C dX2_withForecasts_49 (by decide) ?_
      refine x_lv (lv' := [(0, .ref (q 0)), (1, .long x1), (3, .long z5.1), (5, .int z6)]) [0, 1, 2, 3] rfl ?_
      exact ih ((z5.1, z6, z3)) (rOk_t hnx hf) (fun z' hz => K0 z' ((run_t hf).trans hz))
noncomputable def f_h_withForecasts (m : gM) (a1 : Int64) : Int64 × gM := g_let (run (L_h_withForecasts_5 a1) 400 ((a1, (0 : Int32), m))) (fun z2 : Int64 × Int32 × gM => (z2.1, z2.2.2))
noncomputable def o_h_withForecasts (m : gM) (a1 : Int64) : Prop := (rOk (L_h_withForecasts_5 a1) (K_h_withForecasts_5 a1) 400 ((a1, (0 : Int32), m))) ∧ (g_let (run (L_h_withForecasts_5 a1) 400 ((a1, (0 : Int32), m))) (fun z2 : Int64 × Int32 × gM => True))
set_option maxRecDepth 100000 in
set_option maxHeartbeats 4000000 in
theorem c_h_withForecasts (l : Launch) (G : gG) (q : Nat → Nat) (m : gM) (h : gN) (a1 : Int64) (hok : o_h_withForecasts m a1) : gMl l yX2_withForecasts wsX2_withForecasts rm_h_withForecasts G shH q m h [.ref (q 0), .long a1] ((f_h_withForecasts m a1).2) h ((f_h_withForecasts m a1).1) := by
  intro sz
  refine g_met (cc := cX2_withForecasts) (maxL := 7) (ret := (some .long)) (own := RX2) (Qc := fun sz => gQl G shH q ((f_h_withForecasts m a1).2) h sz ((f_h_withForecasts m a1).1)) (by decide) rfl rfl (Nat.le_of_ble_eq_true rfl) (fun p e s m9 below meth c C hq hr => ?_)
  refine x_lv (lv' := [(0, .ref (q 0)), (1, .long a1)]) [0, 1] rfl ?_
  have hf := f_h_withForecasts.eq_1 m a1
  have hok := Eq.mp (o_h_withForecasts.eq_1 m a1) hok
  refine x_lload_n C dX2_withForecasts_0 rfl 1 rfl ?_
  refine x_lstore_n (lv' := [(0, .ref (q 0)), (1, .long a1), (3, .long a1)]) C dX2_withForecasts_1 rfl (by decide) [1, 2, 0] rfl ?_
  refine x_iconst (v := (0 : Int32)) C dX2_withForecasts_2 (by decide) ?_
  refine x_istore (lv' := [(0, .ref (q 0)), (1, .long a1), (3, .long a1), (5, .int (0 : Int32))]) C dX2_withForecasts_3 (by decide) [1, 2, 3, 0] rfl ?_
  have s1 := And.left hok
  have hok := And.right hok
  refine lp_h_withForecasts_5 C hq h a1 400 ((a1, (0 : Int32), m)) s1 (fun z2 hz2 => ?_)
  have hf := hf.trans (g_let_eq hz2.symm)
  have hok := g_let_p hz2.symm hok
  refine x_lload_n C dX2_withForecasts_52 rfl 2 rfl ?_
  exact g_lret C hr dX2_withForecasts_53 (congrArg (fun z => z.1) hf).symm (congrArg (fun z => z.2) hf).symm rfl
set_option maxRecDepth 20000 in
theorem in_X2_digest_1 : ∀ w ∈ u_ws RX1 TX1 17, w ∈ wsX2_digest := by decide +kernel
set_option maxRecDepth 20000 in
theorem in_X2_digest_2 : ∀ w ∈ u_ws RX2 TX2 7, w ∈ wsX2_digest := by decide +kernel
set_option maxRecDepth 20000 in
theorem kc_X2_digest_185 : Cond.constantLong RX2 185 (2731) ∈ wsX2_digest := by decide +kernel
set_option maxRecDepth 20000 in
theorem k_X2_digest_10 : Cond.fieldLink RX2 10 "HintedPages" "store" "LHintedPages$Store;" ∈ wsX2_digest := by decide +kernel
set_option maxRecDepth 20000 in
theorem k_X2_digest_112 : Cond.fieldLink RX2 112 "HintedPages$Store" "settings" "[I" ∈ wsX2_digest := by decide +kernel
set_option maxRecDepth 20000 in
theorem k_X2_digest_27 : Cond.fieldLink RX2 27 "HintedPages" "codes" "[I" ∈ wsX2_digest := by decide +kernel
set_option maxRecDepth 20000 in
theorem k_X2_digest_31 : Cond.fieldLink RX2 31 "HintedPages" "length" "I" ∈ wsX2_digest := by decide +kernel
abbrev rm_h_digest : Room := { frames := 6, cells := 0, slots := 0, locals := 142 }
noncomputable def L_h_digest_6 (m : gM) (z : Int64 × Int32) : Bool × (Int64 × Int32) := (if (12 : Int32) ≤ z.2 then (false, (z.1, z.2)) else g_let ((f_h_mixed z.1 ((f_h_count m z.2).toInt64))) (fun z4 : Int64 => g_let ((z.2 + (1 : Int32))) (fun z5 : Int32 => (true, (z4, z5)))))
noncomputable def K_h_digest_6 (m : gM) (z : Int64 × Int32) : Prop := (if (12 : Int32) ≤ z.2 then True else (o_h_count m z.2) ∧ ((o_h_mixed z.1 ((f_h_count m z.2).toInt64)) ∧ (g_let ((f_h_mixed z.1 ((f_h_count m z.2).toInt64))) (fun z4 : Int64 => g_let ((z.2 + (1 : Int32))) (fun z5 : Int32 => True)))))
set_option maxRecDepth 100000 in
set_option maxHeartbeats 4000000 in
theorem lp_h_digest_6 {p : Program} {l : Launch} {e : Env} {s : State} {m9 : MethodId} {args : Array Value} {below : List Frame} {meth : Method} {c : Code} {G : gG} {A : Nat → Prop} {Q : State → Prop} {q : Nat → Nat} (C : xC p s m9 args meth c G A 4 cX2_digest RX2 wsX2_digest) (hq : gD A q shH.length) (m : gM) (h : gN) : ∀ (n : Nat) (z : Int64 × Int32), rOk (L_h_digest_6 m) (K_h_digest_6 m) n z → (∀ z' : Int64 × Int32, run (L_h_digest_6 m) n z = z' → xJ p l e rm_h_digest s m9 args below meth c G A 4 Q 0 0 shH q m h [(0, .ref (q 0)), (1, .long z'.1), (3, .int z'.2)] [] 29) → xJ p l e rm_h_digest s m9 args below meth c G A 4 Q 0 0 shH q m h [(0, .ref (q 0)), (1, .long z.1), (3, .int z.2)] [] 6 := by
  intro n
  induction n with
  | zero =>
    intro z hok _
    exact rOk_0 hok
  | succ n ih =>
    intro z hok K0
    have hnx := rOk_2 hok
    have hok := rOk_1 hok
    have hf := L_h_digest_6.eq_1 m z
    have hok := Eq.mp (K_h_digest_6.eq_1 m z) hok
    refine x_iload_n C dX2_digest_6 rfl 2 rfl ?_
    refine x_bipush (v := (12 : Int32)) C dX2_digest_7 (by decide) ?_
    refine x_icmp_ge (tgt := 29) C dX2_digest_9 (by decide) (fun c1 => ?_) (fun c1 => ?_)
    · have hf := hf.trans (if_pos c1)
      have hok := g_ip c1 hok
      exact K0 ((z.1, z.2)) (run_f hf)
    · have hf := hf.trans (if_neg c1)
      have hok := g_in c1 hok
      refine x_lload_n C dX2_digest_12 rfl 1 rfl ?_
      refine x_aload_n C dX2_digest_13 rfl 0 rfl ?_
      refine x_iload_n C dX2_digest_14 rfl 2 rfl ?_
      have s2 := And.left hok
      have hok := And.right hok
      refine x_callVi (n := 1) C hq gFr_same (c_h_count l G q m h z.2 s2) (cwV 1 C.2.2.2.2.2.1 gX2_digest_X2_count rfl rfl rfl (by decide +kernel) ⟨Nat.le_of_ble_eq_true rfl, Nat.le_of_ble_eq_true rfl⟩) rfl rfl rfl rfl (Nat.le_of_ble_eq_true rfl) dX2_digest_15 (Nat.zero_le _) (Nat.zero_le _) ?_
      refine x_i2l C dX2_digest_18 rfl ?_
      have s3 := And.left hok
      have hok := And.right hok
      refine x_callSl (n := 2) C hq (gFr_pure gs_H_0_) (c_h_mixed l G (g_sel [] q) (g_sel [] m) (g_sel [] h) z.1 ((f_h_count m z.2).toInt64) s3) (va_cwS 2 C.2.2.2.2.2.1 gX2_digest_X2_mixed rfl rfl rfl (by decide +kernel) ⟨Nat.le_of_ble_eq_true rfl, Nat.le_of_ble_eq_true rfl⟩) rfl rfl (Nat.le_of_ble_eq_true rfl) dX2_digest_19 (Nat.zero_le _) (Nat.zero_le _) ?_
      obtain ⟨z4, hz4⟩ : ∃ y9 : Int64, y9 = (f_h_mixed z.1 ((f_h_count m z.2).toInt64)) := ⟨_, rfl⟩
      have hf := hf.trans (g_let_eq hz4)
      have hok := g_let_p hz4 hok
      refine x_topl hz4 ?_
      refine x_lstore_n (lv' := [(0, .ref (q 0)), (1, .long z4), (3, .int z.2)]) C dX2_digest_22 rfl (by decide) [1, 0, 2] rfl ?_
      obtain ⟨z5, hz5⟩ : ∃ y9 : Int32, y9 = (z.2 + (1 : Int32)) := ⟨_, rfl⟩
      have hf := hf.trans (g_let_eq hz5)
      have hok := g_let_p hz5 hok
      refine x_iinc (v := z5) (lv' := [(0, .ref (q 0)), (1, .long z4), (3, .int z5)]) C dX2_digest_23 2 rfl hz5.symm (by decide) [1, 2, 0] rfl ?_
      refine x_goto (tgt := 6) C dX2_digest_26 (by decide) ?_
      exact ih ((z4, z5)) (rOk_t hnx hf) (fun z' hz => K0 z' ((run_t hf).trans hz))
noncomputable def L_h_digest_129 (m : gM) (z : Int64 × Int32) : Bool × (Int64 × Int32) := (if (m 0 5) ≤ z.2 then (false, (z.1, z.2)) else g_let ((f_h_mixed z.1 ((m 2 z.2.toNatClampNeg).toInt64))) (fun z4 : Int64 => g_let ((z.2 + (1 : Int32))) (fun z5 : Int32 => (true, (z4, z5)))))
noncomputable def K_h_digest_129 (m : gM) (z : Int64 × Int32) : Prop := (if (m 0 5) ≤ z.2 then True else (vp_in z.2 60) ∧ ((o_h_mixed z.1 ((m 2 z.2.toNatClampNeg).toInt64)) ∧ (g_let ((f_h_mixed z.1 ((m 2 z.2.toNatClampNeg).toInt64))) (fun z4 : Int64 => g_let ((z.2 + (1 : Int32))) (fun z5 : Int32 => True)))))
set_option maxRecDepth 100000 in
set_option maxHeartbeats 4000000 in
theorem lp_h_digest_129 {p : Program} {l : Launch} {e : Env} {s : State} {m9 : MethodId} {args : Array Value} {below : List Frame} {meth : Method} {c : Code} {G : gG} {A : Nat → Prop} {Q : State → Prop} {q : Nat → Nat} (C : xC p s m9 args meth c G A 4 cX2_digest RX2 wsX2_digest) (hq : gD A q shH.length) (m : gM) (h : gN) : ∀ (n : Nat) (z : Int64 × Int32), rOk (L_h_digest_129 m) (K_h_digest_129 m) n z → (∀ z' : Int64 × Int32, run (L_h_digest_129 m) n z = z' → xJ p l e rm_h_digest s m9 args below meth c G A 4 Q 0 0 shH q m h [(0, .ref (q 0)), (1, .long z'.1), (3, .int z'.2)] [] 155) → xJ p l e rm_h_digest s m9 args below meth c G A 4 Q 0 0 shH q m h [(0, .ref (q 0)), (1, .long z.1), (3, .int z.2)] [] 129 := by
  intro n
  induction n with
  | zero =>
    intro z hok _
    exact rOk_0 hok
  | succ n ih =>
    intro z hok K0
    have hnx := rOk_2 hok
    have hok := rOk_1 hok
    have hf := L_h_digest_129.eq_1 m z
    have hok := Eq.mp (K_h_digest_129.eq_1 m z) hok
    refine x_iload_n C dX2_digest_129 rfl 2 rfl ?_
    refine x_aload_n C dX2_digest_130 rfl 0 rfl ?_
    refine x_get (v := .int (m 0 5)) C in_X2_digest_2 0 rfl rfl 5 (by decide) k_X2_digest_31 rfl rfl dX2_digest_131 ?_
    refine x_icmp_ge (tgt := 155) C dX2_digest_134 (by decide) (fun c1 => ?_) (fun c1 => ?_)
    · have hf := hf.trans (if_pos c1)
      have hok := g_ip c1 hok
      exact K0 ((z.1, z.2)) (run_f hf)
    · have hf := hf.trans (if_neg c1)
      have hok := g_in c1 hok
      refine x_lload_n C dX2_digest_137 rfl 1 rfl ?_
      refine x_aload_n C dX2_digest_138 rfl 0 rfl ?_
      refine x_get (v := .ref (q 2)) C in_X2_digest_2 0 rfl rfl 4 (by decide) k_X2_digest_27 rfl rfl dX2_digest_139 ?_
      refine x_iload_n C dX2_digest_142 rfl 2 rfl ?_
      have s2 := And.left hok
      have hok := And.right hok
      refine x_iald (n := 60) (v := (m 2 z.2.toNatClampNeg)) C 2 rfl s2 rfl dX2_digest_143 ?_
      refine x_i2l C dX2_digest_144 rfl ?_
      have s3 := And.left hok
      have hok := And.right hok
      refine x_callSl (n := 2) C hq (gFr_pure gs_H_0_) (c_h_mixed l G (g_sel [] q) (g_sel [] m) (g_sel [] h) z.1 ((m 2 z.2.toNatClampNeg).toInt64) s3) (va_cwS 2 C.2.2.2.2.2.1 gX2_digest_X2_mixed rfl rfl rfl (by decide +kernel) ⟨Nat.le_of_ble_eq_true rfl, Nat.le_of_ble_eq_true rfl⟩) rfl rfl (Nat.le_of_ble_eq_true rfl) dX2_digest_145 (Nat.zero_le _) (Nat.zero_le _) ?_
      obtain ⟨z4, hz4⟩ : ∃ y9 : Int64, y9 = (f_h_mixed z.1 ((m 2 z.2.toNatClampNeg).toInt64)) := ⟨_, rfl⟩
      have hf := hf.trans (g_let_eq hz4)
      have hok := g_let_p hz4 hok
      refine x_topl hz4 ?_
      refine x_lstore_n (lv' := [(0, .ref (q 0)), (1, .long z4), (3, .int z.2)]) C dX2_digest_148 rfl (by decide) [1, 0, 2] rfl ?_
      obtain ⟨z5, hz5⟩ : ∃ y9 : Int32, y9 = (z.2 + (1 : Int32)) := ⟨_, rfl⟩
      have hf := hf.trans (g_let_eq hz5)
      have hok := g_let_p hz5 hok
      refine x_iinc (v := z5) (lv' := [(0, .ref (q 0)), (1, .long z4), (3, .int z5)]) C dX2_digest_149 2 rfl hz5.symm (by decide) [1, 2, 0] rfl ?_
      refine x_goto (tgt := 129) C dX2_digest_152 (by decide) ?_
      exact ih ((z4, z5)) (rOk_t hnx hf) (fun z' hz => K0 z' ((run_t hf).trans hz))
noncomputable def f_h_digest (m : gM) : Int64 × gM := g_let (run (L_h_digest_6 m) 400 (((2731 : Int64), (0 : Int32)))) (fun z2 : Int64 × Int32 => g_let ((f_h_mixed z2.1 ((m 19 (0 : Int32).toNatClampNeg).toInt64))) (fun z4 : Int64 => g_let ((f_h_mixed z4 ((m 19 (1 : Int32).toNatClampNeg).toInt64))) (fun z6 : Int64 => g_let ((f_h_withPages m z6)) (fun z8 : Int64 => g_let ((f_h_withBlocks m z8)) (fun z10 : Int64 => g_let ((f_h_withStreams m z10)) (fun z12 : Int64 => g_let (f_h_withForecasts m z12) (fun z14 : Int64 × gM => g_let (f_h_ifRewritten z14.2 (1 : Int32)) (fun z16 : Int32 × gM => g_let ((f_h_mixed z14.1 ((z16.1).toInt64))) (fun z18 : Int64 => g_let (f_h_bestRule z16.2 (2 : Int32)) (fun z20 : Int32 × gM => g_let ((f_h_mixed z18 ((z20.1).toInt64))) (fun z22 : Int64 => g_let ((f_h_mixed z22 (f_h_bitsOf (f_h_amplification z20.2)))) (fun z26 : Int64 => g_let ((f_h_mixed z26 ((z20.2 0 5).toInt64))) (fun z28 : Int64 => g_let (run (L_h_digest_129 z20.2) 400 ((z28, (0 : Int32)))) (fun z30 : Int64 × Int32 => (z30.1, z20.2)))))))))))))))
noncomputable def o_h_digest (m : gM) : Prop := (rOk (L_h_digest_6 m) (K_h_digest_6 m) 400 (((2731 : Int64), (0 : Int32)))) ∧ (g_let (run (L_h_digest_6 m) 400 (((2731 : Int64), (0 : Int32)))) (fun z2 : Int64 × Int32 => (o_h_mixed z2.1 ((m 19 (0 : Int32).toNatClampNeg).toInt64)) ∧ (g_let ((f_h_mixed z2.1 ((m 19 (0 : Int32).toNatClampNeg).toInt64))) (fun z4 : Int64 => (o_h_mixed z4 ((m 19 (1 : Int32).toNatClampNeg).toInt64)) ∧ (g_let ((f_h_mixed z4 ((m 19 (1 : Int32).toNatClampNeg).toInt64))) (fun z6 : Int64 => (o_h_withPages m z6) ∧ (g_let ((f_h_withPages m z6)) (fun z8 : Int64 => (o_h_withBlocks m z8) ∧ (g_let ((f_h_withBlocks m z8)) (fun z10 : Int64 => (o_h_withStreams m z10) ∧ (g_let ((f_h_withStreams m z10)) (fun z12 : Int64 => (o_h_withForecasts m z12) ∧ (g_let (f_h_withForecasts m z12) (fun z14 : Int64 × gM => (o_h_ifRewritten z14.2 (1 : Int32)) ∧ (g_let (f_h_ifRewritten z14.2 (1 : Int32)) (fun z16 : Int32 × gM => (o_h_mixed z14.1 ((z16.1).toInt64)) ∧ (g_let ((f_h_mixed z14.1 ((z16.1).toInt64))) (fun z18 : Int64 => (o_h_bestRule z16.2 (2 : Int32)) ∧ (g_let (f_h_bestRule z16.2 (2 : Int32)) (fun z20 : Int32 × gM => (o_h_mixed z18 ((z20.1).toInt64)) ∧ (g_let ((f_h_mixed z18 ((z20.1).toInt64))) (fun z22 : Int64 => (o_h_amplification z20.2) ∧ ((o_h_bitsOf (f_h_amplification z20.2)) ∧ ((o_h_mixed z22 (f_h_bitsOf (f_h_amplification z20.2))) ∧ (g_let ((f_h_mixed z22 (f_h_bitsOf (f_h_amplification z20.2)))) (fun z26 : Int64 => (o_h_mixed z26 ((z20.2 0 5).toInt64)) ∧ (g_let ((f_h_mixed z26 ((z20.2 0 5).toInt64))) (fun z28 : Int64 => (rOk (L_h_digest_129 z20.2) (K_h_digest_129 z20.2) 400 ((z28, (0 : Int32)))) ∧ (g_let (run (L_h_digest_129 z20.2) 400 ((z28, (0 : Int32)))) (fun z30 : Int64 × Int32 => True))))))))))))))))))))))))))))))
set_option maxRecDepth 100000 in
set_option maxHeartbeats 4000000 in
theorem c_h_digest (l : Launch) (G : gG) (q : Nat → Nat) (m : gM) (h : gN) (hok : o_h_digest m) : gMl l yX2_digest wsX2_digest rm_h_digest G shH q m h [.ref (q 0)] ((f_h_digest m).2) h ((f_h_digest m).1) := by
  intro sz
  refine g_met (cc := cX2_digest) (maxL := 4) (ret := (some .long)) (own := RX2) (Qc := fun sz => gQl G shH q ((f_h_digest m).2) h sz ((f_h_digest m).1)) (by decide) rfl rfl (Nat.le_of_ble_eq_true rfl) (fun p e s m9 below meth c C hq hr => ?_)
  refine x_lv (lv' := [(0, .ref (q 0))]) [0] rfl ?_
  have hf := f_h_digest.eq_1 m
  have hok := Eq.mp (o_h_digest.eq_1 m) hok
  refine x_ldc2 (v := (2731 : Int64)) C kc_X2_digest_185 dX2_digest_0 ?_
  refine x_lstore_n (lv' := [(0, .ref (q 0)), (1, .long (2731 : Int64))]) C dX2_digest_3 rfl (by decide) [1, 0] rfl ?_
  refine x_iconst (v := (0 : Int32)) C dX2_digest_4 (by decide) ?_
  refine x_istore_n (lv' := [(0, .ref (q 0)), (1, .long (2731 : Int64)), (3, .int (0 : Int32))]) C dX2_digest_5 rfl (by decide) [1, 2, 0] rfl ?_
  have s1 := And.left hok
  have hok := And.right hok
  refine lp_h_digest_6 C hq m h 400 (((2731 : Int64), (0 : Int32))) s1 (fun z2 hz2 => ?_)
  have hf := hf.trans (g_let_eq hz2.symm)
  have hok := g_let_p hz2.symm hok
  refine x_lload_n C dX2_digest_29 rfl 1 rfl ?_
  refine x_aload_n C dX2_digest_30 rfl 0 rfl ?_
  refine x_get (v := .ref (q 4)) C in_X2_digest_2 0 rfl rfl 0 (by decide) k_X2_digest_10 rfl rfl dX2_digest_31 ?_
  refine x_get (v := .ref (q 19)) C in_X2_digest_1 4 rfl rfl 14 (by decide) k_X2_digest_112 rfl rfl dX2_digest_34 ?_
  refine x_iconst (v := (0 : Int32)) C dX2_digest_37 (by decide) ?_
  refine x_iald (n := 2) (v := (m 19 (0 : Int32).toNatClampNeg)) C 19 rfl (by unfold vp_in; decide) rfl dX2_digest_38 ?_
  refine x_i2l C dX2_digest_39 rfl ?_
  have s3 := And.left hok
  have hok := And.right hok
  refine x_callSl (n := 2) C hq (gFr_pure gs_H_0_) (c_h_mixed l G (g_sel [] q) (g_sel [] m) (g_sel [] h) z2.1 ((m 19 (0 : Int32).toNatClampNeg).toInt64) s3) (va_cwS 2 C.2.2.2.2.2.1 gX2_digest_X2_mixed rfl rfl rfl (by decide +kernel) ⟨Nat.le_of_ble_eq_true rfl, Nat.le_of_ble_eq_true rfl⟩) rfl rfl (Nat.le_of_ble_eq_true rfl) dX2_digest_40 (Nat.zero_le _) (Nat.zero_le _) ?_
  obtain ⟨z4, hz4⟩ : ∃ y9 : Int64, y9 = (f_h_mixed z2.1 ((m 19 (0 : Int32).toNatClampNeg).toInt64)) := ⟨_, rfl⟩
  have hf := hf.trans (g_let_eq hz4)
  have hok := g_let_p hz4 hok
  refine x_topl hz4 ?_
  refine x_lstore_n (lv' := [(0, .ref (q 0)), (1, .long z4), (3, .int z2.2)]) C dX2_digest_43 rfl (by decide) [1, 0, 2] rfl ?_
  refine x_lload_n C dX2_digest_44 rfl 1 rfl ?_
  refine x_aload_n C dX2_digest_45 rfl 0 rfl ?_
  refine x_get (v := .ref (q 4)) C in_X2_digest_2 0 rfl rfl 0 (by decide) k_X2_digest_10 rfl rfl dX2_digest_46 ?_
  refine x_get (v := .ref (q 19)) C in_X2_digest_1 4 rfl rfl 14 (by decide) k_X2_digest_112 rfl rfl dX2_digest_49 ?_
  refine x_iconst (v := (1 : Int32)) C dX2_digest_52 (by decide) ?_
  refine x_iald (n := 2) (v := (m 19 (1 : Int32).toNatClampNeg)) C 19 rfl (by unfold vp_in; decide) rfl dX2_digest_53 ?_
  refine x_i2l C dX2_digest_54 rfl ?_
  have s5 := And.left hok
  have hok := And.right hok
  refine x_callSl (n := 2) C hq (gFr_pure gs_H_0_) (c_h_mixed l G (g_sel [] q) (g_sel [] m) (g_sel [] h) z4 ((m 19 (1 : Int32).toNatClampNeg).toInt64) s5) (va_cwS 2 C.2.2.2.2.2.1 gX2_digest_X2_mixed rfl rfl rfl (by decide +kernel) ⟨Nat.le_of_ble_eq_true rfl, Nat.le_of_ble_eq_true rfl⟩) rfl rfl (Nat.le_of_ble_eq_true rfl) dX2_digest_55 (Nat.zero_le _) (Nat.zero_le _) ?_
  obtain ⟨z6, hz6⟩ : ∃ y9 : Int64, y9 = (f_h_mixed z4 ((m 19 (1 : Int32).toNatClampNeg).toInt64)) := ⟨_, rfl⟩
  have hf := hf.trans (g_let_eq hz6)
  have hok := g_let_p hz6 hok
  refine x_topl hz6 ?_
  refine x_lstore_n (lv' := [(0, .ref (q 0)), (1, .long z6), (3, .int z2.2)]) C dX2_digest_58 rfl (by decide) [1, 0, 2] rfl ?_
  refine x_aload_n C dX2_digest_59 rfl 0 rfl ?_
  refine x_lload_n C dX2_digest_60 rfl 1 rfl ?_
  have s7 := And.left hok
  have hok := And.right hok
  refine x_callVl (n := 1) C hq gFr_same (c_h_withPages l G q m h z6 s7) (cwV 1 C.2.2.2.2.2.1 gX2_digest_X2_withPages rfl rfl rfl (by decide +kernel) ⟨Nat.le_of_ble_eq_true rfl, Nat.le_of_ble_eq_true rfl⟩) rfl rfl rfl rfl (Nat.le_of_ble_eq_true rfl) dX2_digest_61 (Nat.zero_le _) (Nat.zero_le _) ?_
  obtain ⟨z8, hz8⟩ : ∃ y9 : Int64, y9 = (f_h_withPages m z6) := ⟨_, rfl⟩
  have hf := hf.trans (g_let_eq hz8)
  have hok := g_let_p hz8 hok
  refine x_topl hz8 ?_
  refine x_lstore_n (lv' := [(0, .ref (q 0)), (1, .long z8), (3, .int z2.2)]) C dX2_digest_64 rfl (by decide) [1, 0, 2] rfl ?_
  refine x_aload_n C dX2_digest_65 rfl 0 rfl ?_
  refine x_lload_n C dX2_digest_66 rfl 1 rfl ?_
  have s9 := And.left hok
  have hok := And.right hok
  refine x_callVl (n := 1) C hq gFr_same (c_h_withBlocks l G q m h z8 s9) (cwV 1 C.2.2.2.2.2.1 gX2_digest_X2_withBlocks rfl rfl rfl (by decide +kernel) ⟨Nat.le_of_ble_eq_true rfl, Nat.le_of_ble_eq_true rfl⟩) rfl rfl rfl rfl (Nat.le_of_ble_eq_true rfl) dX2_digest_67 (Nat.zero_le _) (Nat.zero_le _) ?_
  obtain ⟨z10, hz10⟩ : ∃ y9 : Int64, y9 = (f_h_withBlocks m z8) := ⟨_, rfl⟩
  have hf := hf.trans (g_let_eq hz10)
  have hok := g_let_p hz10 hok
  refine x_topl hz10 ?_
  refine x_lstore_n (lv' := [(0, .ref (q 0)), (1, .long z10), (3, .int z2.2)]) C dX2_digest_70 rfl (by decide) [1, 0, 2] rfl ?_
  refine x_aload_n C dX2_digest_71 rfl 0 rfl ?_
  refine x_lload_n C dX2_digest_72 rfl 1 rfl ?_
  have s11 := And.left hok
  have hok := And.right hok
  refine x_callVl (n := 1) C hq gFr_same (c_h_withStreams l G q m h z10 s11) (cwV 1 C.2.2.2.2.2.1 gX2_digest_X2_withStreams rfl rfl rfl (by decide +kernel) ⟨Nat.le_of_ble_eq_true rfl, Nat.le_of_ble_eq_true rfl⟩) rfl rfl rfl rfl (Nat.le_of_ble_eq_true rfl) dX2_digest_73 (Nat.zero_le _) (Nat.zero_le _) ?_
  obtain ⟨z12, hz12⟩ : ∃ y9 : Int64, y9 = (f_h_withStreams m z10) := ⟨_, rfl⟩
  have hf := hf.trans (g_let_eq hz12)
  have hok := g_let_p hz12 hok
  refine x_topl hz12 ?_
  refine x_lstore_n (lv' := [(0, .ref (q 0)), (1, .long z12), (3, .int z2.2)]) C dX2_digest_76 rfl (by decide) [1, 0, 2] rfl ?_
  refine x_aload_n C dX2_digest_77 rfl 0 rfl ?_
  refine x_lload_n C dX2_digest_78 rfl 1 rfl ?_
  have s13 := And.left hok
  have hok := And.right hok
  obtain ⟨z14, hz14⟩ : ∃ y9 : Int64 × gM, y9 = f_h_withForecasts m z12 := ⟨_, rfl⟩
  have hf := hf.trans (g_let_eq hz14)
  have hok := g_let_p hz14 hok
  have hmz14 : gMl l yX2_withForecasts wsX2_withForecasts rm_h_withForecasts G shH q m h [.ref (q 0), .long z12] z14.2 h z14.1 := by rw [hz14]; exact c_h_withForecasts l G q m h z12 s13
  refine x_callVl (n := 1) C hq gFr_same (hmz14) (cwV 1 C.2.2.2.2.2.1 gX2_digest_X2_withForecasts rfl rfl rfl (by decide +kernel) ⟨Nat.le_of_ble_eq_true rfl, Nat.le_of_ble_eq_true rfl⟩) rfl rfl rfl rfl (Nat.le_of_ble_eq_true rfl) dX2_digest_79 (Nat.zero_le _) (Nat.zero_le _) ?_
  refine x_lstore_n (lv' := [(0, .ref (q 0)), (1, .long z14.1), (3, .int z2.2)]) C dX2_digest_82 rfl (by decide) [1, 0, 2] rfl ?_
  refine x_lload_n C dX2_digest_83 rfl 1 rfl ?_
  refine x_aload_n C dX2_digest_84 rfl 0 rfl ?_
  refine x_iconst (v := (1 : Int32)) C dX2_digest_85 (by decide) ?_
  have s15 := And.left hok
  have hok := And.right hok
  obtain ⟨z16, hz16⟩ : ∃ y9 : Int32 × gM, y9 = f_h_ifRewritten z14.2 (1 : Int32) := ⟨_, rfl⟩
  have hf := hf.trans (g_let_eq hz16)
  have hok := g_let_p hz16 hok
  have hmz16 : gMi l yX2_ifRewritten wsX2_ifRewritten rm_h_ifRewritten G shH q z14.2 h [.ref (q 0), .int (1 : Int32)] z16.2 h z16.1 := by rw [hz16]; exact c_h_ifRewritten l G q z14.2 h (1 : Int32) s15
  refine x_callVi (n := 1) C hq gFr_same (hmz16) (cwV 1 C.2.2.2.2.2.1 gX2_digest_X2_ifRewritten rfl rfl rfl (by decide +kernel) ⟨Nat.le_of_ble_eq_true rfl, Nat.le_of_ble_eq_true rfl⟩) rfl rfl rfl rfl (Nat.le_of_ble_eq_true rfl) dX2_digest_86 (Nat.zero_le _) (Nat.zero_le _) ?_
  refine x_i2l C dX2_digest_89 rfl ?_
  have s17 := And.left hok
  have hok := And.right hok
  refine x_callSl (n := 2) C hq (gFr_pure gs_H_0_) (c_h_mixed l G (g_sel [] q) (g_sel [] z16.2) (g_sel [] h) z14.1 ((z16.1).toInt64) s17) (va_cwS 2 C.2.2.2.2.2.1 gX2_digest_X2_mixed rfl rfl rfl (by decide +kernel) ⟨Nat.le_of_ble_eq_true rfl, Nat.le_of_ble_eq_true rfl⟩) rfl rfl (Nat.le_of_ble_eq_true rfl) dX2_digest_90 (Nat.zero_le _) (Nat.zero_le _) ?_
  obtain ⟨z18, hz18⟩ : ∃ y9 : Int64, y9 = (f_h_mixed z14.1 ((z16.1).toInt64)) := ⟨_, rfl⟩
  have hf := hf.trans (g_let_eq hz18)
  have hok := g_let_p hz18 hok
  refine x_topl hz18 ?_
  refine x_lstore_n (lv' := [(0, .ref (q 0)), (1, .long z18), (3, .int z2.2)]) C dX2_digest_93 rfl (by decide) [1, 0, 2] rfl ?_
  refine x_lload_n C dX2_digest_94 rfl 1 rfl ?_
  refine x_aload_n C dX2_digest_95 rfl 0 rfl ?_
  refine x_iconst (v := (2 : Int32)) C dX2_digest_96 (by decide) ?_
  have s19 := And.left hok
  have hok := And.right hok
  obtain ⟨z20, hz20⟩ : ∃ y9 : Int32 × gM, y9 = f_h_bestRule z16.2 (2 : Int32) := ⟨_, rfl⟩
  have hf := hf.trans (g_let_eq hz20)
  have hok := g_let_p hz20 hok
  have hmz20 : gMi l yX2_bestRule wsX2_bestRule rm_h_bestRule G shH q z16.2 h [.ref (q 0), .int (2 : Int32)] z20.2 h z20.1 := by rw [hz20]; exact c_h_bestRule l G q z16.2 h (2 : Int32) s19
  refine x_callVi (n := 1) C hq gFr_same (hmz20) (cwV 1 C.2.2.2.2.2.1 gX2_digest_X2_bestRule rfl rfl rfl (by decide +kernel) ⟨Nat.le_of_ble_eq_true rfl, Nat.le_of_ble_eq_true rfl⟩) rfl rfl rfl rfl (Nat.le_of_ble_eq_true rfl) dX2_digest_97 (Nat.zero_le _) (Nat.zero_le _) ?_
  refine x_i2l C dX2_digest_100 rfl ?_
  have s21 := And.left hok
  have hok := And.right hok
  refine x_callSl (n := 2) C hq (gFr_pure gs_H_0_) (c_h_mixed l G (g_sel [] q) (g_sel [] z20.2) (g_sel [] h) z18 ((z20.1).toInt64) s21) (va_cwS 2 C.2.2.2.2.2.1 gX2_digest_X2_mixed rfl rfl rfl (by decide +kernel) ⟨Nat.le_of_ble_eq_true rfl, Nat.le_of_ble_eq_true rfl⟩) rfl rfl (Nat.le_of_ble_eq_true rfl) dX2_digest_101 (Nat.zero_le _) (Nat.zero_le _) ?_
  obtain ⟨z22, hz22⟩ : ∃ y9 : Int64, y9 = (f_h_mixed z18 ((z20.1).toInt64)) := ⟨_, rfl⟩
  have hf := hf.trans (g_let_eq hz22)
  have hok := g_let_p hz22 hok
  refine x_topl hz22 ?_
  refine x_lstore_n (lv' := [(0, .ref (q 0)), (1, .long z22), (3, .int z2.2)]) C dX2_digest_104 rfl (by decide) [1, 0, 2] rfl ?_
  refine x_lload_n C dX2_digest_105 rfl 1 rfl ?_
  refine x_aload_n C dX2_digest_106 rfl 0 rfl ?_
  have s23 := And.left hok
  have hok := And.right hok
  refine x_callVd (n := 0) C hq gFr_same (c_h_amplification l G q z20.2 h s23) (cwV 0 C.2.2.2.2.2.1 gX2_digest_X2_amplification rfl rfl rfl (by decide +kernel) ⟨Nat.le_of_ble_eq_true rfl, Nat.le_of_ble_eq_true rfl⟩) rfl rfl rfl rfl (Nat.le_of_ble_eq_true rfl) dX2_digest_107 (Nat.zero_le _) (Nat.zero_le _) ?_
  have s24 := And.left hok
  have hok := And.right hok
  refine x_callSl (n := 1) C hq (gFr_pure gs_H_0_) (c_h_bitsOf l G (g_sel [] q) (g_sel [] z20.2) (g_sel [] h) (f_h_amplification z20.2) s24) (va_cwS 1 C.2.2.2.2.2.1 gX2_digest_X2_bitsOf rfl rfl rfl (by decide +kernel) ⟨Nat.le_of_ble_eq_true rfl, Nat.le_of_ble_eq_true rfl⟩) rfl rfl (Nat.le_of_ble_eq_true rfl) dX2_digest_110 (Nat.zero_le _) (Nat.zero_le _) ?_
  have s25 := And.left hok
  have hok := And.right hok
  refine x_callSl (n := 2) C hq (gFr_pure gs_H_0_) (c_h_mixed l G (g_sel [] q) (g_sel [] z20.2) (g_sel [] h) z22 (f_h_bitsOf (f_h_amplification z20.2)) s25) (va_cwS 2 C.2.2.2.2.2.1 gX2_digest_X2_mixed rfl rfl rfl (by decide +kernel) ⟨Nat.le_of_ble_eq_true rfl, Nat.le_of_ble_eq_true rfl⟩) rfl rfl (Nat.le_of_ble_eq_true rfl) dX2_digest_113 (Nat.zero_le _) (Nat.zero_le _) ?_
  obtain ⟨z26, hz26⟩ : ∃ y9 : Int64, y9 = (f_h_mixed z22 (f_h_bitsOf (f_h_amplification z20.2))) := ⟨_, rfl⟩
  have hf := hf.trans (g_let_eq hz26)
  have hok := g_let_p hz26 hok
  refine x_topl hz26 ?_
  refine x_lstore_n (lv' := [(0, .ref (q 0)), (1, .long z26), (3, .int z2.2)]) C dX2_digest_116 rfl (by decide) [1, 0, 2] rfl ?_
  refine x_lload_n C dX2_digest_117 rfl 1 rfl ?_
  refine x_aload_n C dX2_digest_118 rfl 0 rfl ?_
  refine x_get (v := .int (z20.2 0 5)) C in_X2_digest_2 0 rfl rfl 5 (by decide) k_X2_digest_31 rfl rfl dX2_digest_119 ?_
  refine x_i2l C dX2_digest_122 rfl ?_
  have s27 := And.left hok
  have hok := And.right hok
  refine x_callSl (n := 2) C hq (gFr_pure gs_H_0_) (c_h_mixed l G (g_sel [] q) (g_sel [] z20.2) (g_sel [] h) z26 ((z20.2 0 5).toInt64) s27) (va_cwS 2 C.2.2.2.2.2.1 gX2_digest_X2_mixed rfl rfl rfl (by decide +kernel) ⟨Nat.le_of_ble_eq_true rfl, Nat.le_of_ble_eq_true rfl⟩) rfl rfl (Nat.le_of_ble_eq_true rfl) dX2_digest_123 (Nat.zero_le _) (Nat.zero_le _) ?_
  obtain ⟨z28, hz28⟩ : ∃ y9 : Int64, y9 = (f_h_mixed z26 ((z20.2 0 5).toInt64)) := ⟨_, rfl⟩
  have hf := hf.trans (g_let_eq hz28)
  have hok := g_let_p hz28 hok
  refine x_topl hz28 ?_
  refine x_lstore_n (lv' := [(0, .ref (q 0)), (1, .long z28), (3, .int z2.2)]) C dX2_digest_126 rfl (by decide) [1, 0, 2] rfl ?_
  refine x_iconst (v := (0 : Int32)) C dX2_digest_127 (by decide) ?_
  refine x_istore_n (lv' := [(0, .ref (q 0)), (1, .long z28), (3, .int (0 : Int32))]) C dX2_digest_128 rfl (by decide) [1, 2, 0] rfl ?_
  have s29 := And.left hok
  have hok := And.right hok
  refine lp_h_digest_129 C hq z20.2 h 400 ((z28, (0 : Int32))) s29 (fun z30 hz30 => ?_)
  have hf := hf.trans (g_let_eq hz30.symm)
  have hok := g_let_p hz30.symm hok
  refine x_lload_n C dX2_digest_155 rfl 1 rfl ?_
  exact g_lret C hr dX2_digest_156 (congrArg (fun z => z.1) hf).symm (congrArg (fun z => z.2) hf).symm rfl
set_option maxRecDepth 20000 in
theorem in_X2_append_2 : ∀ w ∈ u_ws RX2 TX2 7, w ∈ wsX2_append := by decide +kernel
set_option maxRecDepth 20000 in
theorem k_X2_append_27 : Cond.fieldLink RX2 27 "HintedPages" "codes" "[I" ∈ wsX2_append := by decide +kernel
set_option maxRecDepth 20000 in
theorem k_X2_append_31 : Cond.fieldLink RX2 31 "HintedPages" "length" "I" ∈ wsX2_append := by decide +kernel
abbrev rm_h_append : Room := { frames := 0, cells := 0, slots := 0, locals := 0 }
noncomputable def f_h_append (m : gM) (a1 : Int32) : Int32 × gM := (if a1 < (33 : Int32) then ((0 : Int32), m) else (if a1 ≤ (126 : Int32) then (if (m 0 5) < (60 : Int32) then g_let (g_set m 2 (upd (m 2) (m 0 5).toNatClampNeg a1)) (fun z5 : gM => g_let (g_set z5 0 (upd (z5 0) 5 ((z5 0 5) + (1 : Int32)))) (fun z6 : gM => ((z6 0 5), z6))) else ((0 : Int32), m)) else ((0 : Int32), m)))
noncomputable def o_h_append (m : gM) (a1 : Int32) : Prop := (if a1 < (33 : Int32) then False else (if a1 ≤ (126 : Int32) then (if (m 0 5) < (60 : Int32) then (vp_in (m 0 5) 60) ∧ (g_let (g_set m 2 (upd (m 2) (m 0 5).toNatClampNeg a1)) (fun z5 : gM => g_let (g_set z5 0 (upd (z5 0) 5 ((z5 0 5) + (1 : Int32)))) (fun z6 : gM => True))) else False) else False))
set_option maxRecDepth 100000 in
set_option maxHeartbeats 4000000 in
theorem c_h_append (l : Launch) (G : gG) (q : Nat → Nat) (m : gM) (h : gN) (a1 : Int32) (hok : o_h_append m a1) : gMi l yX2_append wsX2_append rm_h_append G shH q m h [.ref (q 0), .int a1] ((f_h_append m a1).2) h ((f_h_append m a1).1) := by
  intro sz
  refine g_met (cc := cX2_append) (maxL := 2) (ret := (some .int)) (own := RX2) (Qc := fun sz => gQi G shH q ((f_h_append m a1).2) h sz ((f_h_append m a1).1)) (by decide) rfl rfl (Nat.le_of_ble_eq_true rfl) (fun p e s m9 below meth c C hq hr => ?_)
  refine x_lv (lv' := [(0, .ref (q 0)), (1, .int a1)]) [0, 1] rfl ?_
  have hf := f_h_append.eq_1 m a1
  have hok := Eq.mp (o_h_append.eq_1 m a1) hok
  refine x_iload_n C dX2_append_0 rfl 1 rfl ?_
  refine x_bipush (v := (33 : Int32)) C dX2_append_1 (by decide) ?_
  refine x_icmp_lt (tgt := 12) C dX2_append_3 (by decide) (fun c1 => ?_) (fun c1 => ?_)
  · have hf := hf.trans (if_pos c1)
    have hok := g_ip c1 hok
    exact False.elim hok
  · have hf := hf.trans (if_neg c1)
    have hok := g_in c1 hok
    refine x_iload_n C dX2_append_6 rfl 1 rfl ?_
    refine x_bipush (v := (126 : Int32)) C dX2_append_7 (by decide) ?_
    refine x_icmp_le (tgt := 22) C dX2_append_9 (by decide) (fun c2 => ?_) (fun c2 => ?_)
    · have hf := hf.trans (if_pos c2)
      have hok := g_ip c2 hok
      refine x_aload_n C dX2_append_22 rfl 0 rfl ?_
      refine x_get (v := .int (m 0 5)) C in_X2_append_2 0 rfl rfl 5 (by decide) k_X2_append_31 rfl rfl dX2_append_23 ?_
      refine x_bipush (v := (60 : Int32)) C dX2_append_26 (by decide) ?_
      refine x_icmp_lt (tgt := 41) C dX2_append_28 (by decide) (fun c3 => ?_) (fun c3 => ?_)
      · have hf := hf.trans (if_pos c3)
        have hok := g_ip c3 hok
        refine x_aload_n C dX2_append_41 rfl 0 rfl ?_
        refine x_get (v := .ref (q 2)) C in_X2_append_2 0 rfl rfl 4 (by decide) k_X2_append_27 rfl rfl dX2_append_42 ?_
        refine x_aload_n C dX2_append_45 rfl 0 rfl ?_
        refine x_get (v := .int (m 0 5)) C in_X2_append_2 0 rfl rfl 5 (by decide) k_X2_append_31 rfl rfl dX2_append_46 ?_
        refine x_iload_n C dX2_append_49 rfl 1 rfl ?_
        have s4 := And.left hok
        have hok := And.right hok
        obtain ⟨z5, hz5⟩ : ∃ y9 : gM, y9 = g_set m 2 (upd (m 2) (m 0 5).toNatClampNeg a1) := ⟨_, rfl⟩
        have hf := hf.trans (g_let_eq hz5)
        have hok := g_let_p hz5 hok
        refine x_iast (μ' := z5) (n := 60) C hq 2 rfl s4 hz5 dX2_append_50 ?_
        refine x_aload_n C dX2_append_51 rfl 0 rfl ?_
        refine x_dup C dX2_append_52 rfl ?_
        refine x_get (v := .int (z5 0 5)) C in_X2_append_2 0 rfl rfl 5 (by decide) k_X2_append_31 rfl rfl dX2_append_53 ?_
        refine x_iconst (v := (1 : Int32)) C dX2_append_56 (by decide) ?_
        refine x_iadd C dX2_append_57 ?_
        obtain ⟨z6, hz6⟩ : ∃ y9 : gM, y9 = g_set z5 0 (upd (z5 0) 5 ((z5 0 5) + (1 : Int32))) := ⟨_, rfl⟩
        have hf := hf.trans (g_let_eq hz6)
        have hok := g_let_p hz6 hok
        refine x_puti (μ' := z6) (ty := .int) C hq tyX2 tyX2_ok nmX2 in_X2_append_2 0 rfl rfl 5 (by decide) k_X2_append_31 rfl (tyX2_ok 5 (by decide)) rfl rfl rfl hz6 dX2_append_58 ?_
        refine x_aload_n C dX2_append_61 rfl 0 rfl ?_
        refine x_get (v := .int (z6 0 5)) C in_X2_append_2 0 rfl rfl 5 (by decide) k_X2_append_31 rfl rfl dX2_append_62 ?_
        exact g_iret C hr rfl dX2_append_65 (congrArg (fun z => z.1) hf).symm (congrArg (fun z => z.2) hf).symm rfl
      · have hf := hf.trans (if_neg c3)
        have hok := g_in c3 hok
        exact False.elim hok
    · have hf := hf.trans (if_neg c2)
      have hok := g_in c2 hok
      exact False.elim hok
