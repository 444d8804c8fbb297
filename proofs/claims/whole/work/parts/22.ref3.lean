set_option maxRecDepth 20000 in
theorem in_X3_isAt_3 : ∀ w ∈ u_ws RX3 TX3 12, w ∈ wsX3_isAt := by decide +kernel
set_option maxRecDepth 20000 in
theorem k_X3_isAt_101 : Cond.fieldLink RX3 101 "HintedPagesModel" "at" "I" ∈ wsX3_isAt := by decide +kernel
set_option maxRecDepth 20000 in
theorem k_X3_isAt_19 : Cond.fieldLink RX3 19 "HintedPagesModel" "text" "[I" ∈ wsX3_isAt := by decide +kernel
set_option maxRecDepth 20000 in
theorem k_X3_isAt_98 : Cond.fieldLink RX3 98 "HintedPagesModel" "typed" "I" ∈ wsX3_isAt := by decide +kernel
abbrev rm_r_isAt : Room := { frames := 1, cells := 0, slots := 0, locals := 22 }
noncomputable def f_r_isAt (m : gM) (a1 : Int32) (a2 : Int32) : Int32 := (if (m 0 5) ≤ (m 0 7) then (0 : Int32) else (if (f_r_in (m 4 (m 0 7).toNatClampNeg) a1 a2) = 0 then (0 : Int32) else (1 : Int32)))
noncomputable def o_r_isAt (m : gM) (a1 : Int32) (a2 : Int32) : Prop := (if (m 0 5) ≤ (m 0 7) then True else (vp_in (m 0 7) 60) ∧ ((o_r_in (m 4 (m 0 7).toNatClampNeg) a1 a2) ∧ ((if (f_r_in (m 4 (m 0 7).toNatClampNeg) a1 a2) = 0 then True else True))))
set_option maxRecDepth 100000 in
set_option maxHeartbeats 4000000 in
theorem c_r_isAt (l : Launch) (G : gG) (q : Nat → Nat) (m : gM) (h : gN) (a1 : Int32) (a2 : Int32) (hok : o_r_isAt m a1 a2) : gMi l yX3_isAt wsX3_isAt rm_r_isAt G shM q m h [.ref (q 0), .int a1, .int a2] m h (f_r_isAt m a1 a2) := by
  intro sz
  refine g_met (cc := cX3_isAt) (maxL := 3) (ret := (some .boolean)) (own := RX3) (Qc := fun sz => gQi G shM q m h sz (f_r_isAt m a1 a2)) (by decide) rfl rfl (Nat.le_of_ble_eq_true rfl) (fun p e s m9 below meth c C hq hr => ?_)
  refine x_lv (lv' := [(0, .ref (q 0)), (1, .int a1), (2, .int a2)]) [0, 1, 2] rfl ?_
  have hf := f_r_isAt.eq_1 m a1 a2
  have hok := Eq.mp (o_r_isAt.eq_1 m a1 a2) hok
  refine x_aload_n C dX3_isAt_0 rfl 0 rfl ?_
  refine x_get (v := .int (m 0 7)) C in_X3_isAt_3 0 rfl rfl 7 (by decide) k_X3_isAt_101 rfl rfl dX3_isAt_1 ?_
  refine x_aload_n C dX3_isAt_4 rfl 0 rfl ?_
  refine x_get (v := .int (m 0 5)) C in_X3_isAt_3 0 rfl rfl 5 (by decide) k_X3_isAt_98 rfl rfl dX3_isAt_5 ?_
  refine x_icmp_ge (tgt := 32) C dX3_isAt_8 (by decide) (fun c1 => ?_) (fun c1 => ?_)
  · have hf := hf.trans (if_pos c1)
    have hok := g_ip c1 hok
    refine x_iconst (v := (0 : Int32)) C dX3_isAt_32 (by decide) ?_
    exact g_iret C hr (g_nz (Or.inl rfl)) dX3_isAt_33 hf.symm rfl rfl
  · have hf := hf.trans (if_neg c1)
    have hok := g_in c1 hok
    refine x_aload_n C dX3_isAt_11 rfl 0 rfl ?_
    refine x_get (v := .ref (q 4)) C in_X3_isAt_3 0 rfl rfl 4 (by decide) k_X3_isAt_19 rfl rfl dX3_isAt_12 ?_
    refine x_aload_n C dX3_isAt_15 rfl 0 rfl ?_
    refine x_get (v := .int (m 0 7)) C in_X3_isAt_3 0 rfl rfl 7 (by decide) k_X3_isAt_101 rfl rfl dX3_isAt_16 ?_
    have s2 := And.left hok
    have hok := And.right hok
    refine x_iald (n := 60) (v := (m 4 (m 0 7).toNatClampNeg)) C 4 rfl s2 rfl dX3_isAt_19 ?_
    refine x_iload_n C dX3_isAt_20 rfl 1 rfl ?_
    refine x_iload_n C dX3_isAt_21 rfl 2 rfl ?_
    have s3 := And.left hok
    have hok := And.right hok
    refine x_callSi (n := 3) C hq (gFr_pure gs_M_0_) (c_r_in l G (g_sel [] q) (g_sel [] m) (g_sel [] h) (m 4 (m 0 7).toNatClampNeg) a1 a2 s3) (va_cwS 3 C.2.2.2.2.2.1 gX3_isAt_X3_in rfl rfl rfl (by decide +kernel) ⟨Nat.le_of_ble_eq_true rfl, Nat.le_of_ble_eq_true rfl⟩) rfl rfl (Nat.le_of_ble_eq_true rfl) dX3_isAt_22 (Nat.zero_le _) (Nat.zero_le _) ?_
    refine x_if_eq (tgt := 32) C dX3_isAt_25 (by decide) (fun c4 => ?_) (fun c4 => ?_)
    · have hf := hf.trans (if_pos c4)
      have hok := g_ip c4 hok
      refine x_iconst (v := (0 : Int32)) C dX3_isAt_32 (by decide) ?_
      exact g_iret C hr (g_nz (Or.inl rfl)) dX3_isAt_33 hf.symm rfl rfl
    · have hf := hf.trans (if_neg c4)
      have hok := g_in c4 hok
      refine x_iconst (v := (1 : Int32)) C dX3_isAt_28 (by decide) ?_
      refine x_goto (tgt := 33) C dX3_isAt_29 (by decide) ?_
      exact g_iret C hr (g_nz (Or.inr rfl)) dX3_isAt_33 hf.symm rfl rfl
set_option maxRecDepth 20000 in
theorem in_X3_stops_3 : ∀ w ∈ u_ws RX3 TX3 12, w ∈ wsX3_stops := by decide +kernel
set_option maxRecDepth 20000 in
theorem k_X3_stops_101 : Cond.fieldLink RX3 101 "HintedPagesModel" "at" "I" ∈ wsX3_stops := by decide +kernel
set_option maxRecDepth 20000 in
theorem k_X3_stops_104 : Cond.fieldLink RX3 104 "HintedPagesModel" "isFault" "Z" ∈ wsX3_stops := by decide +kernel
set_option maxRecDepth 20000 in
theorem k_X3_stops_98 : Cond.fieldLink RX3 98 "HintedPagesModel" "typed" "I" ∈ wsX3_stops := by decide +kernel
abbrev rm_r_stops : Room := { frames := 0, cells := 0, slots := 0, locals := 0 }
noncomputable def f_r_stops (m : gM) : Int32 × gM := (if (m 0 5) ≤ (m 0 7) then g_let (g_set m 0 (upd (m 0) 8 (0 : Int32))) (fun z2 : gM => ((0 : Int32), z2)) else g_let (g_set m 0 (upd (m 0) 8 (1 : Int32))) (fun z3 : gM => ((0 : Int32), z3)))
noncomputable def o_r_stops (m : gM) : Prop := (if (m 0 5) ≤ (m 0 7) then g_let (g_set m 0 (upd (m 0) 8 (0 : Int32))) (fun z2 : gM => True) else g_let (g_set m 0 (upd (m 0) 8 (1 : Int32))) (fun z3 : gM => True))
set_option maxRecDepth 100000 in
set_option maxHeartbeats 4000000 in
theorem c_r_stops (l : Launch) (G : gG) (q : Nat → Nat) (m : gM) (h : gN) (hok : o_r_stops m) : gMi l yX3_stops wsX3_stops rm_r_stops G shM q m h [.ref (q 0)] ((f_r_stops m).2) h ((f_r_stops m).1) := by
  intro sz
  refine g_met (cc := cX3_stops) (maxL := 1) (ret := (some .boolean)) (own := RX3) (Qc := fun sz => gQi G shM q ((f_r_stops m).2) h sz ((f_r_stops m).1)) (by decide) rfl rfl (Nat.le_of_ble_eq_true rfl) (fun p e s m9 below meth c C hq hr => ?_)
  refine x_lv (lv' := [(0, .ref (q 0))]) [0] rfl ?_
  have hf := f_r_stops.eq_1 m
  have hok := Eq.mp (o_r_stops.eq_1 m) hok
  refine x_aload_n C dX3_stops_0 rfl 0 rfl ?_
  refine x_aload_n C dX3_stops_1 rfl 0 rfl ?_
  refine x_get (v := .int (m 0 7)) C in_X3_stops_3 0 rfl rfl 7 (by decide) k_X3_stops_101 rfl rfl dX3_stops_2 ?_
  refine x_aload_n C dX3_stops_5 rfl 0 rfl ?_
  refine x_get (v := .int (m 0 5)) C in_X3_stops_3 0 rfl rfl 5 (by decide) k_X3_stops_98 rfl rfl dX3_stops_6 ?_
  refine x_icmp_ge (tgt := 16) C dX3_stops_9 (by decide) (fun c1 => ?_) (fun c1 => ?_)
  · have hf := hf.trans (if_pos c1)
    have hok := g_ip c1 hok
    refine x_iconst (v := (0 : Int32)) C dX3_stops_16 (by decide) ?_
    obtain ⟨z2, hz2⟩ : ∃ y9 : gM, y9 = g_set m 0 (upd (m 0) 8 (0 : Int32)) := ⟨_, rfl⟩
    have hf := hf.trans (g_let_eq hz2)
    have hok := g_let_p hz2 hok
    refine x_puti (μ' := z2) (ty := .boolean) C hq tyX3 tyX3_ok nmX3 in_X3_stops_3 0 rfl rfl 8 (by decide) k_X3_stops_104 rfl (tyX3_ok 8 (by decide)) (g_nz (Or.inl rfl)) (g_fz (Or.inl rfl)) rfl hz2 dX3_stops_17 ?_
    refine x_iconst (v := (0 : Int32)) C dX3_stops_20 (by decide) ?_
    exact g_iret C hr (g_nz (Or.inl rfl)) dX3_stops_21 (congrArg (fun z => z.1) hf).symm (congrArg (fun z => z.2) hf).symm rfl
  · have hf := hf.trans (if_neg c1)
    have hok := g_in c1 hok
    refine x_iconst (v := (1 : Int32)) C dX3_stops_12 (by decide) ?_
    refine x_goto (tgt := 17) C dX3_stops_13 (by decide) ?_
    obtain ⟨z3, hz3⟩ : ∃ y9 : gM, y9 = g_set m 0 (upd (m 0) 8 (1 : Int32)) := ⟨_, rfl⟩
    have hf := hf.trans (g_let_eq hz3)
    have hok := g_let_p hz3 hok
    refine x_puti (μ' := z3) (ty := .boolean) C hq tyX3 tyX3_ok nmX3 in_X3_stops_3 0 rfl rfl 8 (by decide) k_X3_stops_104 rfl (tyX3_ok 8 (by decide)) (g_nz (Or.inr rfl)) (g_fz (Or.inr rfl)) rfl hz3 dX3_stops_17 ?_
    refine x_iconst (v := (0 : Int32)) C dX3_stops_20 (by decide) ?_
    exact g_iret C hr (g_nz (Or.inl rfl)) dX3_stops_21 (congrArg (fun z => z.1) hf).symm (congrArg (fun z => z.2) hf).symm rfl
set_option maxRecDepth 20000 in
theorem in_X3_takes_3 : ∀ w ∈ u_ws RX3 TX3 12, w ∈ wsX3_takes := by decide +kernel
set_option maxRecDepth 20000 in
theorem k_X3_takes_101 : Cond.fieldLink RX3 101 "HintedPagesModel" "at" "I" ∈ wsX3_takes := by decide +kernel
abbrev rm_r_takes : Room := { frames := 2, cells := 0, slots := 0, locals := 44 }
noncomputable def f_r_takes (m : gM) (a1 : Int32) : Int32 × gM := g_let ((f_r_isAt m a1 a1)) (fun z2 : Int32 => (if z2 = 0 then g_let (g_set m 0 (upd (m 0) 7 ((m 0 7) + (0 : Int32)))) (fun z4 : gM => (z2, z4)) else g_let (g_set m 0 (upd (m 0) 7 ((m 0 7) + (1 : Int32)))) (fun z5 : gM => (z2, z5))))
noncomputable def o_r_takes (m : gM) (a1 : Int32) : Prop := (o_r_isAt m a1 a1) ∧ (g_let ((f_r_isAt m a1 a1)) (fun z2 : Int32 => (if z2 = 0 then g_let (g_set m 0 (upd (m 0) 7 ((m 0 7) + (0 : Int32)))) (fun z4 : gM => (z2 = 0 ∨ z2 = 1) ∧ True) else g_let (g_set m 0 (upd (m 0) 7 ((m 0 7) + (1 : Int32)))) (fun z5 : gM => (z2 = 0 ∨ z2 = 1) ∧ True))))
set_option maxRecDepth 100000 in
set_option maxHeartbeats 4000000 in
theorem c_r_takes (l : Launch) (G : gG) (q : Nat → Nat) (m : gM) (h : gN) (a1 : Int32) (hok : o_r_takes m a1) : gMi l yX3_takes wsX3_takes rm_r_takes G shM q m h [.ref (q 0), .int a1] ((f_r_takes m a1).2) h ((f_r_takes m a1).1) := by
  intro sz
  refine g_met (cc := cX3_takes) (maxL := 3) (ret := (some .boolean)) (own := RX3) (Qc := fun sz => gQi G shM q ((f_r_takes m a1).2) h sz ((f_r_takes m a1).1)) (by decide) rfl rfl (Nat.le_of_ble_eq_true rfl) (fun p e s m9 below meth c C hq hr => ?_)
  refine x_lv (lv' := [(0, .ref (q 0)), (1, .int a1)]) [0, 1] rfl ?_
  have hf := f_r_takes.eq_1 m a1
  have hok := Eq.mp (o_r_takes.eq_1 m a1) hok
  refine x_aload_n C dX3_takes_0 rfl 0 rfl ?_
  refine x_iload_n C dX3_takes_1 rfl 1 rfl ?_
  refine x_iload_n C dX3_takes_2 rfl 1 rfl ?_
  have s1 := And.left hok
  have hok := And.right hok
  refine x_callVi (n := 2) C hq gFr_same (c_r_isAt l G q m h a1 a1 s1) (cwV 2 C.2.2.2.2.2.1 gX3_takes_X3_isAt rfl rfl rfl (by decide +kernel) ⟨Nat.le_of_ble_eq_true rfl, Nat.le_of_ble_eq_true rfl⟩) rfl rfl rfl rfl (Nat.le_of_ble_eq_true rfl) dX3_takes_3 (Nat.zero_le _) (Nat.zero_le _) ?_
  obtain ⟨z2, hz2⟩ : ∃ y9 : Int32, y9 = (f_r_isAt m a1 a1) := ⟨_, rfl⟩
  have hf := hf.trans (g_let_eq hz2)
  have hok := g_let_p hz2 hok
  refine x_topi hz2 ?_
  refine x_istore_n (lv' := [(0, .ref (q 0)), (1, .int a1), (2, .int z2)]) C dX3_takes_6 rfl (by decide) [1, 2, 0] rfl ?_
  refine x_aload_n C dX3_takes_7 rfl 0 rfl ?_
  refine x_dup C dX3_takes_8 rfl ?_
  refine x_get (v := .int (m 0 7)) C in_X3_takes_3 0 rfl rfl 7 (by decide) k_X3_takes_101 rfl rfl dX3_takes_9 ?_
  refine x_iload_n C dX3_takes_12 rfl 2 rfl ?_
  refine x_if_eq (tgt := 20) C dX3_takes_13 (by decide) (fun c3 => ?_) (fun c3 => ?_)
  · have hf := hf.trans (if_pos c3)
    have hok := g_ip c3 hok
    refine x_iconst (v := (0 : Int32)) C dX3_takes_20 (by decide) ?_
    refine x_iadd C dX3_takes_21 ?_
    obtain ⟨z4, hz4⟩ : ∃ y9 : gM, y9 = g_set m 0 (upd (m 0) 7 ((m 0 7) + (0 : Int32))) := ⟨_, rfl⟩
    have hf := hf.trans (g_let_eq hz4)
    have hok := g_let_p hz4 hok
    refine x_puti (μ' := z4) (ty := .int) C hq tyX3 tyX3_ok nmX3 in_X3_takes_3 0 rfl rfl 7 (by decide) k_X3_takes_101 rfl (tyX3_ok 7 (by decide)) rfl rfl rfl hz4 dX3_takes_22 ?_
    refine x_iload_n C dX3_takes_25 rfl 2 rfl ?_
    have h01 := And.left hok
    exact g_iret C hr (g_nz h01) dX3_takes_26 (congrArg (fun z => z.1) hf).symm (congrArg (fun z => z.2) hf).symm rfl
  · have hf := hf.trans (if_neg c3)
    have hok := g_in c3 hok
    refine x_iconst (v := (1 : Int32)) C dX3_takes_16 (by decide) ?_
    refine x_goto (tgt := 21) C dX3_takes_17 (by decide) ?_
    refine x_iadd C dX3_takes_21 ?_
    obtain ⟨z5, hz5⟩ : ∃ y9 : gM, y9 = g_set m 0 (upd (m 0) 7 ((m 0 7) + (1 : Int32))) := ⟨_, rfl⟩
    have hf := hf.trans (g_let_eq hz5)
    have hok := g_let_p hz5 hok
    refine x_puti (μ' := z5) (ty := .int) C hq tyX3 tyX3_ok nmX3 in_X3_takes_3 0 rfl rfl 7 (by decide) k_X3_takes_101 rfl (tyX3_ok 7 (by decide)) rfl rfl rfl hz5 dX3_takes_22 ?_
    refine x_iload_n C dX3_takes_25 rfl 2 rfl ?_
    have h01 := And.left hok
    exact g_iret C hr (g_nz h01) dX3_takes_26 (congrArg (fun z => z.1) hf).symm (congrArg (fun z => z.2) hf).symm rfl
abbrev rm_r_canFollow : Room := { frames := 1, cells := 0, slots := 0, locals := 22 }
noncomputable def f_r_canFollow (m : gM) (a1 : Int32) (a2 : Int32) (a3 : Int32) : Int32 := (if a1 = (-1 : Int32) then (if a3 < a2 then (1 : Int32) else (if (f_r_in a2 (1 : Int32) (3 : Int32)) = 0 then (0 : Int32) else (if (((10 : Int32) * a2) + (9 : Int32)) ≤ a3 then (0 : Int32) else (1 : Int32)))) else (if (f_r_in a1 (1 : Int32) (3 : Int32)) = 0 then (0 : Int32) else (if (((10 : Int32) * a1) + a2) ≤ a3 then (0 : Int32) else (1 : Int32))))
noncomputable def o_r_canFollow (m : gM) (a1 : Int32) (a2 : Int32) (a3 : Int32) : Prop := (if a1 = (-1 : Int32) then (if a3 < a2 then True else (o_r_in a2 (1 : Int32) (3 : Int32)) ∧ ((if (f_r_in a2 (1 : Int32) (3 : Int32)) = 0 then True else (if (((10 : Int32) * a2) + (9 : Int32)) ≤ a3 then True else True)))) else (o_r_in a1 (1 : Int32) (3 : Int32)) ∧ ((if (f_r_in a1 (1 : Int32) (3 : Int32)) = 0 then True else (if (((10 : Int32) * a1) + a2) ≤ a3 then True else True))))
set_option maxRecDepth 100000 in
set_option maxHeartbeats 4000000 in
theorem c_r_canFollow (l : Launch) (G : gG) (q : Nat → Nat) (m : gM) (h : gN) (a1 : Int32) (a2 : Int32) (a3 : Int32) (hok : o_r_canFollow m a1 a2 a3) : gMi l yX3_canFollow wsX3_canFollow rm_r_canFollow G shM q m h [.ref (q 0), .int a1, .int a2, .int a3] m h (f_r_canFollow m a1 a2 a3) := by
  intro sz
  refine g_met (cc := cX3_canFollow) (maxL := 4) (ret := (some .boolean)) (own := RX3) (Qc := fun sz => gQi G shM q m h sz (f_r_canFollow m a1 a2 a3)) (by decide) rfl rfl (Nat.le_of_ble_eq_true rfl) (fun p e s m9 below meth c C hq hr => ?_)
  refine x_lv (lv' := [(0, .ref (q 0)), (1, .int a1), (2, .int a2), (3, .int a3)]) [0, 1, 2, 3] rfl ?_
  have hf := f_r_canFollow.eq_1 m a1 a2 a3
  have hok := Eq.mp (o_r_canFollow.eq_1 m a1 a2 a3) hok
  refine x_iload_n C dX3_canFollow_0 rfl 1 rfl ?_
  refine x_iconst (v := (-1 : Int32)) C dX3_canFollow_1 (by decide) ?_
  refine x_icmp_ne (tgt := 36) C dX3_canFollow_2 (by decide) (fun c1 => ?_) (fun c1 => ?_)
  · have hf := hf.trans (if_neg c1)
    have hok := g_in c1 hok
    refine x_iload_n C dX3_canFollow_36 rfl 1 rfl ?_
    refine x_iconst (v := (1 : Int32)) C dX3_canFollow_37 (by decide) ?_
    refine x_iconst (v := (3 : Int32)) C dX3_canFollow_38 (by decide) ?_
    have s2 := And.left hok
    have hok := And.right hok
    refine x_callSi (n := 3) C hq (gFr_pure gs_M_0_) (c_r_in l G (g_sel [] q) (g_sel [] m) (g_sel [] h) a1 (1 : Int32) (3 : Int32) s2) (va_cwS 3 C.2.2.2.2.2.1 gX3_canFollow_X3_in rfl rfl rfl (by decide +kernel) ⟨Nat.le_of_ble_eq_true rfl, Nat.le_of_ble_eq_true rfl⟩) rfl rfl (Nat.le_of_ble_eq_true rfl) dX3_canFollow_39 (Nat.zero_le _) (Nat.zero_le _) ?_
    refine x_if_eq (tgt := 59) C dX3_canFollow_42 (by decide) (fun c3 => ?_) (fun c3 => ?_)
    · have hf := hf.trans (if_pos c3)
      have hok := g_ip c3 hok
      refine x_iconst (v := (0 : Int32)) C dX3_canFollow_59 (by decide) ?_
      exact g_iret C hr (g_nz (Or.inl rfl)) dX3_canFollow_60 hf.symm rfl rfl
    · have hf := hf.trans (if_neg c3)
      have hok := g_in c3 hok
      refine x_bipush (v := (10 : Int32)) C dX3_canFollow_45 (by decide) ?_
      refine x_iload_n C dX3_canFollow_47 rfl 1 rfl ?_
      refine x_imul C dX3_canFollow_48 ?_
      refine x_iload_n C dX3_canFollow_49 rfl 2 rfl ?_
      refine x_iadd C dX3_canFollow_50 ?_
      refine x_iload_n C dX3_canFollow_51 rfl 3 rfl ?_
      refine x_icmp_le (tgt := 59) C dX3_canFollow_52 (by decide) (fun c4 => ?_) (fun c4 => ?_)
      · have hf := hf.trans (if_pos c4)
        have hok := g_ip c4 hok
        refine x_iconst (v := (0 : Int32)) C dX3_canFollow_59 (by decide) ?_
        exact g_iret C hr (g_nz (Or.inl rfl)) dX3_canFollow_60 hf.symm rfl rfl
      · have hf := hf.trans (if_neg c4)
        have hok := g_in c4 hok
        refine x_iconst (v := (1 : Int32)) C dX3_canFollow_55 (by decide) ?_
        refine x_goto (tgt := 60) C dX3_canFollow_56 (by decide) ?_
        exact g_iret C hr (g_nz (Or.inr rfl)) dX3_canFollow_60 hf.symm rfl rfl
  · have hf := hf.trans (if_pos c1)
    have hok := g_ip c1 hok
    refine x_iload_n C dX3_canFollow_5 rfl 2 rfl ?_
    refine x_iload_n C dX3_canFollow_6 rfl 3 rfl ?_
    refine x_icmp_gt (tgt := 30) C dX3_canFollow_7 (by decide) (fun c5 => ?_) (fun c5 => ?_)
    · have hf := hf.trans (if_pos c5)
      have hok := g_ip c5 hok
      refine x_iconst (v := (1 : Int32)) C dX3_canFollow_30 (by decide) ?_
      refine x_goto (tgt := 35) C dX3_canFollow_31 (by decide) ?_
      exact g_iret C hr (g_nz (Or.inr rfl)) dX3_canFollow_35 hf.symm rfl rfl
    · have hf := hf.trans (if_neg c5)
      have hok := g_in c5 hok
      refine x_iload_n C dX3_canFollow_10 rfl 2 rfl ?_
      refine x_iconst (v := (1 : Int32)) C dX3_canFollow_11 (by decide) ?_
      refine x_iconst (v := (3 : Int32)) C dX3_canFollow_12 (by decide) ?_
      have s6 := And.left hok
      have hok := And.right hok
      refine x_callSi (n := 3) C hq (gFr_pure gs_M_0_) (c_r_in l G (g_sel [] q) (g_sel [] m) (g_sel [] h) a2 (1 : Int32) (3 : Int32) s6) (va_cwS 3 C.2.2.2.2.2.1 gX3_canFollow_X3_in rfl rfl rfl (by decide +kernel) ⟨Nat.le_of_ble_eq_true rfl, Nat.le_of_ble_eq_true rfl⟩) rfl rfl (Nat.le_of_ble_eq_true rfl) dX3_canFollow_13 (Nat.zero_le _) (Nat.zero_le _) ?_
      refine x_if_eq (tgt := 34) C dX3_canFollow_16 (by decide) (fun c7 => ?_) (fun c7 => ?_)
      · have hf := hf.trans (if_pos c7)
        have hok := g_ip c7 hok
        refine x_iconst (v := (0 : Int32)) C dX3_canFollow_34 (by decide) ?_
        exact g_iret C hr (g_nz (Or.inl rfl)) dX3_canFollow_35 hf.symm rfl rfl
      · have hf := hf.trans (if_neg c7)
        have hok := g_in c7 hok
        refine x_bipush (v := (10 : Int32)) C dX3_canFollow_19 (by decide) ?_
        refine x_iload_n C dX3_canFollow_21 rfl 2 rfl ?_
        refine x_imul C dX3_canFollow_22 ?_
        refine x_bipush (v := (9 : Int32)) C dX3_canFollow_23 (by decide) ?_
        refine x_iadd C dX3_canFollow_25 ?_
        refine x_iload_n C dX3_canFollow_26 rfl 3 rfl ?_
        refine x_icmp_le (tgt := 34) C dX3_canFollow_27 (by decide) (fun c8 => ?_) (fun c8 => ?_)
        · have hf := hf.trans (if_pos c8)
          have hok := g_ip c8 hok
          refine x_iconst (v := (0 : Int32)) C dX3_canFollow_34 (by decide) ?_
          exact g_iret C hr (g_nz (Or.inl rfl)) dX3_canFollow_35 hf.symm rfl rfl
        · have hf := hf.trans (if_neg c8)
          have hok := g_in c8 hok
          refine x_iconst (v := (1 : Int32)) C dX3_canFollow_30 (by decide) ?_
          refine x_goto (tgt := 35) C dX3_canFollow_31 (by decide) ?_
          exact g_iret C hr (g_nz (Or.inr rfl)) dX3_canFollow_35 hf.symm rfl rfl
set_option maxRecDepth 20000 in
theorem in_X3_takesPage_3 : ∀ w ∈ u_ws RX3 TX3 12, w ∈ wsX3_takesPage := by decide +kernel
set_option maxRecDepth 20000 in
theorem k_X3_takesPage_101 : Cond.fieldLink RX3 101 "HintedPagesModel" "at" "I" ∈ wsX3_takesPage := by decide +kernel
set_option maxRecDepth 20000 in
theorem k_X3_takesPage_115 : Cond.fieldLink RX3 115 "HintedPagesModel" "tolds" "I" ∈ wsX3_takesPage := by decide +kernel
set_option maxRecDepth 20000 in
theorem k_X3_takesPage_19 : Cond.fieldLink RX3 19 "HintedPagesModel" "text" "[I" ∈ wsX3_takesPage := by decide +kernel
set_option maxRecDepth 20000 in
theorem k_X3_takesPage_22 : Cond.fieldLink RX3 22 "HintedPagesModel" "told" "[I" ∈ wsX3_takesPage := by decide +kernel
abbrev rm_r_takesPage : Room := { frames := 2, cells := 0, slots := 0, locals := 45 }
noncomputable def L_r_takesPage_2 (x1 : Int32) (x2 : Int32) (z : Int32 × gM) : Bool × (Int32 × gM) := (if (f_r_isAt z.2 (48 : Int32) (57 : Int32)) = 0 then (false, (z.1, z.2)) else (if (10 : Int32) ≤ z.1 then (false, (z.1, z.2)) else (if (f_r_canFollow z.2 z.1 ((z.2 4 (z.2 0 7).toNatClampNeg) - (48 : Int32)) x2) = 0 then (false, (z.1, z.2)) else (if z.1 = (-1 : Int32) then g_let ((((0 : Int32) + (z.2 4 (z.2 0 7).toNatClampNeg)) - (48 : Int32))) (fun z12 : Int32 => g_let (g_set z.2 0 (upd (z.2 0) 7 ((z.2 0 7) + (1 : Int32)))) (fun z13 : gM => (true, (z12, z13)))) else g_let (((((10 : Int32) * z.1) + (z.2 4 (z.2 0 7).toNatClampNeg)) - (48 : Int32))) (fun z9 : Int32 => g_let (g_set z.2 0 (upd (z.2 0) 7 ((z.2 0 7) + (1 : Int32)))) (fun z10 : gM => (true, (z9, z10))))))))
noncomputable def K_r_takesPage_2 (x1 : Int32) (x2 : Int32) (z : Int32 × gM) : Prop := (o_r_isAt z.2 (48 : Int32) (57 : Int32)) ∧ ((if (f_r_isAt z.2 (48 : Int32) (57 : Int32)) = 0 then True else (if (10 : Int32) ≤ z.1 then True else (vp_in (z.2 0 7) 60) ∧ ((o_r_canFollow z.2 z.1 ((z.2 4 (z.2 0 7).toNatClampNeg) - (48 : Int32)) x2) ∧ ((if (f_r_canFollow z.2 z.1 ((z.2 4 (z.2 0 7).toNatClampNeg) - (48 : Int32)) x2) = 0 then True else (if z.1 = (-1 : Int32) then (vp_in (z.2 0 7) 60) ∧ (g_let ((((0 : Int32) + (z.2 4 (z.2 0 7).toNatClampNeg)) - (48 : Int32))) (fun z12 : Int32 => g_let (g_set z.2 0 (upd (z.2 0) 7 ((z.2 0 7) + (1 : Int32)))) (fun z13 : gM => True))) else (vp_in (z.2 0 7) 60) ∧ (g_let (((((10 : Int32) * z.1) + (z.2 4 (z.2 0 7).toNatClampNeg)) - (48 : Int32))) (fun z9 : Int32 => g_let (g_set z.2 0 (upd (z.2 0) 7 ((z.2 0 7) + (1 : Int32)))) (fun z10 : gM => True))))))))))
set_option maxRecDepth 100000 in
set_option maxHeartbeats 4000000 in
theorem lp_r_takesPage_2 {p : Program} {l : Launch} {e : Env} {s : State} {m9 : MethodId} {args : Array Value} {below : List Frame} {meth : Method} {c : Code} {G : gG} {A : Nat → Prop} {Q : State → Prop} {q : Nat → Nat} (C : xC p s m9 args meth c G A 4 cX3_takesPage RX3 wsX3_takesPage) (hq : gD A q shM.length) (h : gN) (x1 : Int32) (x2 : Int32) : ∀ (n : Nat) (z : Int32 × gM), rOk (L_r_takesPage_2 x1 x2) (K_r_takesPage_2 x1 x2) n z → (∀ z' : Int32 × gM, run (L_r_takesPage_2 x1 x2) n z = z' → xJ p l e rm_r_takesPage s m9 args below meth c G A 4 Q 0 0 shM q z'.2 h [(0, .ref (q 0)), (1, .int x1), (2, .int x2), (3, .int z'.1)] [] 80) → xJ p l e rm_r_takesPage s m9 args below meth c G A 4 Q 0 0 shM q z.2 h [(0, .ref (q 0)), (1, .int x1), (2, .int x2), (3, .int z.1)] [] 2 := by
  intro n
  induction n with
  | zero =>
    intro z hok _
    exact rOk_0 hok
  | succ n ih =>
    intro z hok K0
    have hnx := rOk_2 hok
    have hok := rOk_1 hok
    have hf := L_r_takesPage_2.eq_1 x1 x2 z
    have hok := Eq.mp (K_r_takesPage_2.eq_1 x1 x2 z) hok
    refine x_aload_n C dX3_takesPage_2 rfl 0 rfl ?_
    refine x_bipush (v := (48 : Int32)) C dX3_takesPage_3 (by decide) ?_
    refine x_bipush (v := (57 : Int32)) C dX3_takesPage_5 (by decide) ?_
    have s1 := And.left hok
    have hok := And.right hok
    refine x_callVi (n := 2) C hq gFr_same (c_r_isAt l G q z.2 h (48 : Int32) (57 : Int32) s1) (cwV 2 C.2.2.2.2.2.1 gX3_takesPage_X3_isAt rfl rfl rfl (by decide +kernel) ⟨Nat.le_of_ble_eq_true rfl, Nat.le_of_ble_eq_true rfl⟩) rfl rfl rfl rfl (Nat.le_of_ble_eq_true rfl) dX3_takesPage_7 (Nat.zero_le _) (Nat.zero_le _) ?_
    refine x_if_eq (tgt := 80) C dX3_takesPage_10 (by decide) (fun c2 => ?_) (fun c2 => ?_)
    · have hf := hf.trans (if_pos c2)
      have hok := g_ip c2 hok
      exact K0 ((z.1, z.2)) (run_f hf)
    · have hf := hf.trans (if_neg c2)
      have hok := g_in c2 hok
      refine x_iload_n C dX3_takesPage_13 rfl 3 rfl ?_
      refine x_bipush (v := (10 : Int32)) C dX3_takesPage_14 (by decide) ?_
      refine x_icmp_ge (tgt := 80) C dX3_takesPage_16 (by decide) (fun c3 => ?_) (fun c3 => ?_)
      · have hf := hf.trans (if_pos c3)
        have hok := g_ip c3 hok
        exact K0 ((z.1, z.2)) (run_f hf)
      · have hf := hf.trans (if_neg c3)
        have hok := g_in c3 hok
        refine x_aload_n C dX3_takesPage_19 rfl 0 rfl ?_
        refine x_iload_n C dX3_takesPage_20 rfl 3 rfl ?_
        refine x_aload_n C dX3_takesPage_21 rfl 0 rfl ?_
        refine x_get (v := .ref (q 4)) C in_X3_takesPage_3 0 rfl rfl 4 (by decide) k_X3_takesPage_19 rfl rfl dX3_takesPage_22 ?_
        refine x_aload_n C dX3_takesPage_25 rfl 0 rfl ?_
        refine x_get (v := .int (z.2 0 7)) C in_X3_takesPage_3 0 rfl rfl 7 (by decide) k_X3_takesPage_101 rfl rfl dX3_takesPage_26 ?_
        have s4 := And.left hok
        have hok := And.right hok
        refine x_iald (n := 60) (v := (z.2 4 (z.2 0 7).toNatClampNeg)) C 4 rfl s4 rfl dX3_takesPage_29 ?_
        refine x_bipush (v := (48 : Int32)) C dX3_takesPage_30 (by decide) ?_
        refine x_isub C dX3_takesPage_32 ?_
        refine x_iload_n C dX3_takesPage_33 rfl 2 rfl ?_
        have s5 := And.left hok
        have hok := And.right hok
        refine x_callVi (n := 3) C hq gFr_same (c_r_canFollow l G q z.2 h z.1 ((z.2 4 (z.2 0 7).toNatClampNeg) - (48 : Int32)) x2 s5) (cwV 3 C.2.2.2.2.2.1 gX3_takesPage_X3_canFollow rfl rfl rfl (by decide +kernel) ⟨Nat.le_of_ble_eq_true rfl, Nat.le_of_ble_eq_true rfl⟩) rfl rfl rfl rfl (Nat.le_of_ble_eq_true rfl) dX3_takesPage_34 (Nat.zero_le _) (Nat.zero_le _) ?_
        refine x_if_eq (tgt := 80) C dX3_takesPage_37 (by decide) (fun c6 => ?_) (fun c6 => ?_)
        · have hf := hf.trans (if_pos c6)
          have hok := g_ip c6 hok
          exact K0 ((z.1, z.2)) (run_f hf)
        · have hf := hf.trans (if_neg c6)
          have hok := g_in c6 hok
          refine x_iload_n C dX3_takesPage_40 rfl 3 rfl ?_
          refine x_iconst (v := (-1 : Int32)) C dX3_takesPage_41 (by decide) ?_
          refine x_icmp_ne (tgt := 49) C dX3_takesPage_42 (by decide) (fun c7 => ?_) (fun c7 => ?_)
          · have hf := hf.trans (if_neg c7)
            have hok := g_in c7 hok
            refine x_bipush (v := (10 : Int32)) C dX3_takesPage_49 (by decide) ?_
            refine x_iload_n C dX3_takesPage_51 rfl 3 rfl ?_
            refine x_imul C dX3_takesPage_52 ?_
            refine x_aload_n C dX3_takesPage_53 rfl 0 rfl ?_
            refine x_get (v := .ref (q 4)) C in_X3_takesPage_3 0 rfl rfl 4 (by decide) k_X3_takesPage_19 rfl rfl dX3_takesPage_54 ?_
            refine x_aload_n C dX3_takesPage_57 rfl 0 rfl ?_
            refine x_get (v := .int (z.2 0 7)) C in_X3_takesPage_3 0 rfl rfl 7 (by decide) k_X3_takesPage_101 rfl rfl dX3_takesPage_58 ?_
            have s8 := And.left hok
            have hok := And.right hok
            refine x_iald (n := 60) (v := (z.2 4 (z.2 0 7).toNatClampNeg)) C 4 rfl s8 rfl dX3_takesPage_61 ?_
            refine x_iadd C dX3_takesPage_62 ?_
            refine x_bipush (v := (48 : Int32)) C dX3_takesPage_63 (by decide) ?_
            refine x_isub C dX3_takesPage_65 ?_
            obtain ⟨z9, hz9⟩ : ∃ y9 : Int32, y9 = ((((10 : Int32) * z.1) + (z.2 4 (z.2 0 7).toNatClampNeg)) - (48 : Int32)) := ⟨_, rfl⟩
            have hf := hf.trans (g_let_eq hz9)
            have hok := g_let_p hz9 hok
            refine x_topi hz9 ?_
            refine x_istore_n (lv' := [(0, .ref (q 0)), (1, .int x1), (2, .int x2), (3, .int z9)]) C dX3_takesPage_66 rfl (by decide) [1, 2, 3, 0] rfl ?_
            refine x_aload_n C dX3_takesPage_67 rfl 0 rfl ?_
            refine x_dup C dX3_takesPage_68 rfl ?_
            refine x_get (v := .int (z.2 0 7)) C in_X3_takesPage_3 0 rfl rfl 7 (by decide) k_X3_takesPage_101 rfl rfl dX3_takesPage_69 ?_
            refine x_iconst (v := (1 : Int32)) C dX3_takesPage_72 (by decide) ?_
            refine x_iadd C dX3_takesPage_73 ?_
            obtain ⟨z10, hz10⟩ : ∃ y9 : gM, y9 = g_set z.2 0 (upd (z.2 0) 7 ((z.2 0 7) + (1 : Int32))) := ⟨_, rfl⟩
            have hf := hf.trans (g_let_eq hz10)
            have hok := g_let_p hz10 hok
            refine x_puti (μ' := z10) (ty := .int) C hq tyX3 tyX3_ok nmX3 in_X3_takesPage_3 0 rfl rfl 7 (by decide) k_X3_takesPage_101 rfl (tyX3_ok 7 (by decide)) rfl rfl rfl hz10 dX3_takesPage_74 ?_
            refine x_goto (tgt := 2) C dX3_takesPage_77 (by decide) ?_
            exact ih ((z9, z10)) (rOk_t hnx hf) (fun z' hz => K0 z' ((run_t hf).trans hz))
          · have hf := hf.trans (if_pos c7)
            have hok := g_ip c7 hok
            refine x_iconst (v := (0 : Int32)) C dX3_takesPage_45 (by decide) ?_
            refine x_goto (tgt := 53) C dX3_takesPage_46 (by decide) ?_
            refine x_aload_n C dX3_takesPage_53 rfl 0 rfl ?_
            refine x_get (v := .ref (q 4)) C in_X3_takesPage_3 0 rfl rfl 4 (by decide) k_X3_takesPage_19 rfl rfl dX3_takesPage_54 ?_
            refine x_aload_n C dX3_takesPage_57 rfl 0 rfl ?_
            refine x_get (v := .int (z.2 0 7)) C in_X3_takesPage_3 0 rfl rfl 7 (by decide) k_X3_takesPage_101 rfl rfl dX3_takesPage_58 ?_
            have s11 := And.left hok
            have hok := And.right hok
            refine x_iald (n := 60) (v := (z.2 4 (z.2 0 7).toNatClampNeg)) C 4 rfl s11 rfl dX3_takesPage_61 ?_
            refine x_iadd C dX3_takesPage_62 ?_
            refine x_bipush (v := (48 : Int32)) C dX3_takesPage_63 (by decide) ?_
            refine x_isub C dX3_takesPage_65 ?_
            obtain ⟨z12, hz12⟩ : ∃ y9 : Int32, y9 = (((0 : Int32) + (z.2 4 (z.2 0 7).toNatClampNeg)) - (48 : Int32)) := ⟨_, rfl⟩
            have hf := hf.trans (g_let_eq hz12)
            have hok := g_let_p hz12 hok
            refine x_topi hz12 ?_
            refine x_istore_n (lv' := [(0, .ref (q 0)), (1, .int x1), (2, .int x2), (3, .int z12)]) C dX3_takesPage_66 rfl (by decide) [1, 2, 3, 0] rfl ?_
            refine x_aload_n C dX3_takesPage_67 rfl 0 rfl ?_
            refine x_dup C dX3_takesPage_68 rfl ?_
            refine x_get (v := .int (z.2 0 7)) C in_X3_takesPage_3 0 rfl rfl 7 (by decide) k_X3_takesPage_101 rfl rfl dX3_takesPage_69 ?_
            refine x_iconst (v := (1 : Int32)) C dX3_takesPage_72 (by decide) ?_
            refine x_iadd C dX3_takesPage_73 ?_
            obtain ⟨z13, hz13⟩ : ∃ y9 : gM, y9 = g_set z.2 0 (upd (z.2 0) 7 ((z.2 0 7) + (1 : Int32))) := ⟨_, rfl⟩
            have hf := hf.trans (g_let_eq hz13)
            have hok := g_let_p hz13 hok
            refine x_puti (μ' := z13) (ty := .int) C hq tyX3 tyX3_ok nmX3 in_X3_takesPage_3 0 rfl rfl 7 (by decide) k_X3_takesPage_101 rfl (tyX3_ok 7 (by decide)) rfl rfl rfl hz13 dX3_takesPage_74 ?_
            refine x_goto (tgt := 2) C dX3_takesPage_77 (by decide) ?_
            exact ih ((z12, z13)) (rOk_t hnx hf) (fun z' hz => K0 z' ((run_t hf).trans hz))
noncomputable def f_r_takesPage (m : gM) (a1 : Int32) (a2 : Int32) : Int32 × gM := g_let (run (L_r_takesPage_2 a1 a2) 400 (((-1 : Int32), m))) (fun z2 : Int32 × gM => g_let (g_set z2.2 5 (upd (z2.2 5) (((3 : Int32) * (z2.2 0 10)) + a1).toNatClampNeg z2.1)) (fun z4 : gM => (if a2 < z2.1 then ((1 : Int32), z4) else g_let (f_r_stops z4) (fun z7 : Int32 × gM => (if z7.1 = 0 then ((0 : Int32), z7.2) else ((1 : Int32), z7.2))))))
noncomputable def o_r_takesPage (m : gM) (a1 : Int32) (a2 : Int32) : Prop := (rOk (L_r_takesPage_2 a1 a2) (K_r_takesPage_2 a1 a2) 400 (((-1 : Int32), m))) ∧ (g_let (run (L_r_takesPage_2 a1 a2) 400 (((-1 : Int32), m))) (fun z2 : Int32 × gM => (vp_in (((3 : Int32) * (z2.2 0 10)) + a1) 96) ∧ (g_let (g_set z2.2 5 (upd (z2.2 5) (((3 : Int32) * (z2.2 0 10)) + a1).toNatClampNeg z2.1)) (fun z4 : gM => (if a2 < z2.1 then True else (o_r_stops z4) ∧ (g_let (f_r_stops z4) (fun z7 : Int32 × gM => (if z7.1 = 0 then True else True))))))))
set_option maxRecDepth 100000 in
set_option maxHeartbeats 4000000 in
theorem c_r_takesPage (l : Launch) (G : gG) (q : Nat → Nat) (m : gM) (h : gN) (a1 : Int32) (a2 : Int32) (hok : o_r_takesPage m a1 a2) : gMi l yX3_takesPage wsX3_takesPage rm_r_takesPage G shM q m h [.ref (q 0), .int a1, .int a2] ((f_r_takesPage m a1 a2).2) h ((f_r_takesPage m a1 a2).1) := by
  intro sz
  refine g_met (cc := cX3_takesPage) (maxL := 4) (ret := (some .boolean)) (own := RX3) (Qc := fun sz => gQi G shM q ((f_r_takesPage m a1 a2).2) h sz ((f_r_takesPage m a1 a2).1)) (by decide) rfl rfl (Nat.le_of_ble_eq_true rfl) (fun p e s m9 below meth c C hq hr => ?_)
  refine x_lv (lv' := [(0, .ref (q 0)), (1, .int a1), (2, .int a2)]) [0, 1, 2] rfl ?_
  have hf := f_r_takesPage.eq_1 m a1 a2
  have hok := Eq.mp (o_r_takesPage.eq_1 m a1 a2) hok
  refine x_iconst (v := (-1 : Int32)) C dX3_takesPage_0 (by decide) ?_
  refine x_istore_n (lv' := [(0, .ref (q 0)), (1, .int a1), (2, .int a2), (3, .int (-1 : Int32))]) C dX3_takesPage_1 rfl (by decide) [1, 2, 3, 0] rfl ?_
  have s1 := And.left hok
  have hok := And.right hok
  refine lp_r_takesPage_2 C hq h a1 a2 400 (((-1 : Int32), m)) s1 (fun z2 hz2 => ?_)
  have hf := hf.trans (g_let_eq hz2.symm)
  have hok := g_let_p hz2.symm hok
  refine x_aload_n C dX3_takesPage_80 rfl 0 rfl ?_
  refine x_get (v := .ref (q 5)) C in_X3_takesPage_3 0 rfl rfl 9 (by decide) k_X3_takesPage_22 rfl rfl dX3_takesPage_81 ?_
  refine x_iconst (v := (3 : Int32)) C dX3_takesPage_84 (by decide) ?_
  refine x_aload_n C dX3_takesPage_85 rfl 0 rfl ?_
  refine x_get (v := .int (z2.2 0 10)) C in_X3_takesPage_3 0 rfl rfl 10 (by decide) k_X3_takesPage_115 rfl rfl dX3_takesPage_86 ?_
  refine x_imul C dX3_takesPage_89 ?_
  refine x_iload_n C dX3_takesPage_90 rfl 1 rfl ?_
  refine x_iadd C dX3_takesPage_91 ?_
  refine x_iload_n C dX3_takesPage_92 rfl 3 rfl ?_
  have s3 := And.left hok
  have hok := And.right hok
  obtain ⟨z4, hz4⟩ : ∃ y9 : gM, y9 = g_set z2.2 5 (upd (z2.2 5) (((3 : Int32) * (z2.2 0 10)) + a1).toNatClampNeg z2.1) := ⟨_, rfl⟩
  have hf := hf.trans (g_let_eq hz4)
  have hok := g_let_p hz4 hok
  refine x_iast (μ' := z4) (n := 96) C hq 5 rfl s3 hz4 dX3_takesPage_93 ?_
  refine x_iload_n C dX3_takesPage_94 rfl 3 rfl ?_
  refine x_iload_n C dX3_takesPage_95 rfl 2 rfl ?_
  refine x_icmp_gt (tgt := 106) C dX3_takesPage_96 (by decide) (fun c5 => ?_) (fun c5 => ?_)
  · have hf := hf.trans (if_pos c5)
    have hok := g_ip c5 hok
    refine x_iconst (v := (1 : Int32)) C dX3_takesPage_106 (by decide) ?_
    refine x_goto (tgt := 111) C dX3_takesPage_107 (by decide) ?_
    exact g_iret C hr (g_nz (Or.inr rfl)) dX3_takesPage_111 (congrArg (fun z => z.1) hf).symm (congrArg (fun z => z.2) hf).symm rfl
  · have hf := hf.trans (if_neg c5)
    have hok := g_in c5 hok
    refine x_aload_n C dX3_takesPage_99 rfl 0 rfl ?_
    have s6 := And.left hok
    have hok := And.right hok
    obtain ⟨z7, hz7⟩ : ∃ y9 : Int32 × gM, y9 = f_r_stops z4 := ⟨_, rfl⟩
    have hf := hf.trans (g_let_eq hz7)
    have hok := g_let_p hz7 hok
    have hmz7 : gMi l yX3_stops wsX3_stops rm_r_stops G shM q z4 h [.ref (q 0)] z7.2 h z7.1 := by rw [hz7]; exact c_r_stops l G q z4 h s6
    refine x_callVi (n := 0) C hq gFr_same (hmz7) (cwV 0 C.2.2.2.2.2.1 gX3_takesPage_X3_stops rfl rfl rfl (by decide +kernel) ⟨Nat.le_of_ble_eq_true rfl, Nat.le_of_ble_eq_true rfl⟩) rfl rfl rfl rfl (Nat.le_of_ble_eq_true rfl) dX3_takesPage_100 (Nat.zero_le _) (Nat.zero_le _) ?_
    refine x_if_eq (tgt := 110) C dX3_takesPage_103 (by decide) (fun c8 => ?_) (fun c8 => ?_)
    · have hf := hf.trans (if_pos c8)
      have hok := g_ip c8 hok
      refine x_iconst (v := (0 : Int32)) C dX3_takesPage_110 (by decide) ?_
      exact g_iret C hr (g_nz (Or.inl rfl)) dX3_takesPage_111 (congrArg (fun z => z.1) hf).symm (congrArg (fun z => z.2) hf).symm rfl
    · have hf := hf.trans (if_neg c8)
      have hok := g_in c8 hok
      refine x_iconst (v := (1 : Int32)) C dX3_takesPage_106 (by decide) ?_
      refine x_goto (tgt := 111) C dX3_takesPage_107 (by decide) ?_
      exact g_iret C hr (g_nz (Or.inr rfl)) dX3_takesPage_111 (congrArg (fun z => z.1) hf).symm (congrArg (fun z => z.2) hf).symm rfl
set_option maxRecDepth 20000 in
theorem in_X3_takesPart_3 : ∀ w ∈ u_ws RX3 TX3 12, w ∈ wsX3_takesPart := by decide +kernel
set_option maxRecDepth 20000 in
theorem k_X3_takesPart_101 : Cond.fieldLink RX3 101 "HintedPagesModel" "at" "I" ∈ wsX3_takesPart := by decide +kernel
set_option maxRecDepth 20000 in
theorem k_X3_takesPart_115 : Cond.fieldLink RX3 115 "HintedPagesModel" "tolds" "I" ∈ wsX3_takesPart := by decide +kernel
set_option maxRecDepth 20000 in
theorem k_X3_takesPart_19 : Cond.fieldLink RX3 19 "HintedPagesModel" "text" "[I" ∈ wsX3_takesPart := by decide +kernel
set_option maxRecDepth 20000 in
theorem k_X3_takesPart_22 : Cond.fieldLink RX3 22 "HintedPagesModel" "told" "[I" ∈ wsX3_takesPart := by decide +kernel
abbrev rm_r_takesPart : Room := { frames := 3, cells := 0, slots := 0, locals := 68 }
noncomputable def f_r_takesPart (m : gM) : Int32 × gM := g_let (f_r_takesPage m (0 : Int32) (-1 : Int32)) (fun z2 : Int32 × gM => (if z2.1 = 0 then ((0 : Int32), z2.2) else g_let ((z2.2 5 ((3 : Int32) * (z2.2 0 10)).toNatClampNeg)) (fun z5 : Int32 => g_let (g_set z2.2 5 (upd (z2.2 5) (((3 : Int32) * (z2.2 0 10)) + (1 : Int32)).toNatClampNeg z5)) (fun z7 : gM => g_let (g_set z7 5 (upd (z7 5) (((3 : Int32) * (z7 0 10)) + (2 : Int32)).toNatClampNeg (0 : Int32))) (fun z9 : gM => (if (39 : Int32) ≤ z5 then g_let (f_r_takes z9 (104 : Int32)) (fun z12 : Int32 × gM => (if z12.1 = 0 then ((1 : Int32), z12.2) else (if (f_r_isAt z12.2 (48 : Int32) (51 : Int32)) = 0 then g_let (f_r_stops z12.2) (fun z21 : Int32 × gM => (z21.1, z21.2)) else g_let (g_set z12.2 5 (upd (z12.2 5) (((3 : Int32) * (z12.2 0 10)) + (2 : Int32)).toNatClampNeg ((z12.2 4 (z12.2 0 7).toNatClampNeg) - (48 : Int32)))) (fun z18 : gM => g_let (g_set z18 0 (upd (z18 0) 7 ((z18 0 7) + (1 : Int32)))) (fun z19 : gM => ((1 : Int32), z19)))))) else g_let (f_r_takes z9 (45 : Int32)) (fun z23 : Int32 × gM => (if z23.1 = 0 then g_let (f_r_takes z23.2 (104 : Int32)) (fun z26 : Int32 × gM => (if z26.1 = 0 then ((1 : Int32), z26.2) else (if (f_r_isAt z26.2 (48 : Int32) (51 : Int32)) = 0 then g_let (f_r_stops z26.2) (fun z35 : Int32 × gM => (z35.1, z35.2)) else g_let (g_set z26.2 5 (upd (z26.2 5) (((3 : Int32) * (z26.2 0 10)) + (2 : Int32)).toNatClampNeg ((z26.2 4 (z26.2 0 7).toNatClampNeg) - (48 : Int32)))) (fun z32 : gM => g_let (g_set z32 0 (upd (z32 0) 7 ((z32 0 7) + (1 : Int32)))) (fun z33 : gM => ((1 : Int32), z33)))))) else g_let (f_r_takesPage z23.2 (1 : Int32) z5) (fun z37 : Int32 × gM => (if z37.1 = 0 then ((0 : Int32), z37.2) else g_let (f_r_takes z37.2 (104 : Int32)) (fun z40 : Int32 × gM => (if z40.1 = 0 then ((1 : Int32), z40.2) else (if (f_r_isAt z40.2 (48 : Int32) (51 : Int32)) = 0 then g_let (f_r_stops z40.2) (fun z49 : Int32 × gM => (z49.1, z49.2)) else g_let (g_set z40.2 5 (upd (z40.2 5) (((3 : Int32) * (z40.2 0 10)) + (2 : Int32)).toNatClampNeg ((z40.2 4 (z40.2 0 7).toNatClampNeg) - (48 : Int32)))) (fun z46 : gM => g_let (g_set z46 0 (upd (z46 0) 7 ((z46 0 7) + (1 : Int32)))) (fun z47 : gM => ((1 : Int32), z47))))))))))))))))
noncomputable def o_r_takesPart (m : gM) : Prop := (o_r_takesPage m (0 : Int32) (-1 : Int32)) ∧ (g_let (f_r_takesPage m (0 : Int32) (-1 : Int32)) (fun z2 : Int32 × gM => (if z2.1 = 0 then True else (vp_in ((3 : Int32) * (z2.2 0 10)) 96) ∧ (g_let ((z2.2 5 ((3 : Int32) * (z2.2 0 10)).toNatClampNeg)) (fun z5 : Int32 => (vp_in (((3 : Int32) * (z2.2 0 10)) + (1 : Int32)) 96) ∧ (g_let (g_set z2.2 5 (upd (z2.2 5) (((3 : Int32) * (z2.2 0 10)) + (1 : Int32)).toNatClampNeg z5)) (fun z7 : gM => (vp_in (((3 : Int32) * (z7 0 10)) + (2 : Int32)) 96) ∧ (g_let (g_set z7 5 (upd (z7 5) (((3 : Int32) * (z7 0 10)) + (2 : Int32)).toNatClampNeg (0 : Int32))) (fun z9 : gM => (if (39 : Int32) ≤ z5 then (o_r_takes z9 (104 : Int32)) ∧ (g_let (f_r_takes z9 (104 : Int32)) (fun z12 : Int32 × gM => (if z12.1 = 0 then True else (o_r_isAt z12.2 (48 : Int32) (51 : Int32)) ∧ ((if (f_r_isAt z12.2 (48 : Int32) (51 : Int32)) = 0 then (o_r_stops z12.2) ∧ (g_let (f_r_stops z12.2) (fun z21 : Int32 × gM => (z21.1 = 0 ∨ z21.1 = 1) ∧ True)) else (vp_in (z12.2 0 7) 60) ∧ ((vp_in (((3 : Int32) * (z12.2 0 10)) + (2 : Int32)) 96) ∧ (g_let (g_set z12.2 5 (upd (z12.2 5) (((3 : Int32) * (z12.2 0 10)) + (2 : Int32)).toNatClampNeg ((z12.2 4 (z12.2 0 7).toNatClampNeg) - (48 : Int32)))) (fun z18 : gM => g_let (g_set z18 0 (upd (z18 0) 7 ((z18 0 7) + (1 : Int32)))) (fun z19 : gM => True))))))))) else (o_r_takes z9 (45 : Int32)) ∧ (g_let (f_r_takes z9 (45 : Int32)) (fun z23 : Int32 × gM => (if z23.1 = 0 then (o_r_takes z23.2 (104 : Int32)) ∧ (g_let (f_r_takes z23.2 (104 : Int32)) (fun z26 : Int32 × gM => (if z26.1 = 0 then True else (o_r_isAt z26.2 (48 : Int32) (51 : Int32)) ∧ ((if (f_r_isAt z26.2 (48 : Int32) (51 : Int32)) = 0 then (o_r_stops z26.2) ∧ (g_let (f_r_stops z26.2) (fun z35 : Int32 × gM => (z35.1 = 0 ∨ z35.1 = 1) ∧ True)) else (vp_in (z26.2 0 7) 60) ∧ ((vp_in (((3 : Int32) * (z26.2 0 10)) + (2 : Int32)) 96) ∧ (g_let (g_set z26.2 5 (upd (z26.2 5) (((3 : Int32) * (z26.2 0 10)) + (2 : Int32)).toNatClampNeg ((z26.2 4 (z26.2 0 7).toNatClampNeg) - (48 : Int32)))) (fun z32 : gM => g_let (g_set z32 0 (upd (z32 0) 7 ((z32 0 7) + (1 : Int32)))) (fun z33 : gM => True))))))))) else (o_r_takesPage z23.2 (1 : Int32) z5) ∧ (g_let (f_r_takesPage z23.2 (1 : Int32) z5) (fun z37 : Int32 × gM => (if z37.1 = 0 then True else (o_r_takes z37.2 (104 : Int32)) ∧ (g_let (f_r_takes z37.2 (104 : Int32)) (fun z40 : Int32 × gM => (if z40.1 = 0 then True else (o_r_isAt z40.2 (48 : Int32) (51 : Int32)) ∧ ((if (f_r_isAt z40.2 (48 : Int32) (51 : Int32)) = 0 then (o_r_stops z40.2) ∧ (g_let (f_r_stops z40.2) (fun z49 : Int32 × gM => (z49.1 = 0 ∨ z49.1 = 1) ∧ True)) else (vp_in (z40.2 0 7) 60) ∧ ((vp_in (((3 : Int32) * (z40.2 0 10)) + (2 : Int32)) 96) ∧ (g_let (g_set z40.2 5 (upd (z40.2 5) (((3 : Int32) * (z40.2 0 10)) + (2 : Int32)).toNatClampNeg ((z40.2 4 (z40.2 0 7).toNatClampNeg) - (48 : Int32)))) (fun z46 : gM => g_let (g_set z46 0 (upd (z46 0) 7 ((z46 0 7) + (1 : Int32)))) (fun z47 : gM => True)))))))))))))))))))))))))
set_option maxRecDepth 100000 in
set_option maxHeartbeats 4000000 in
theorem c_r_takesPart (l : Launch) (G : gG) (q : Nat → Nat) (m : gM) (h : gN) (hok : o_r_takesPart m) : gMi l yX3_takesPart wsX3_takesPart rm_r_takesPart G shM q m h [.ref (q 0)] ((f_r_takesPart m).2) h ((f_r_takesPart m).1) := by
  intro sz
  refine g_met (cc := cX3_takesPart) (maxL := 2) (ret := (some .boolean)) (own := RX3) (Qc := fun sz => gQi G shM q ((f_r_takesPart m).2) h sz ((f_r_takesPart m).1)) (by decide) rfl rfl (Nat.le_of_ble_eq_true rfl) (fun p e s m9 below meth c C hq hr => ?_)
  refine x_lv (lv' := [(0, .ref (q 0))]) [0] rfl ?_
  have hf := f_r_takesPart.eq_1 m
  have hok := Eq.mp (o_r_takesPart.eq_1 m) hok
  refine x_aload_n C dX3_takesPart_0 rfl 0 rfl ?_
  refine x_iconst (v := (0 : Int32)) C dX3_takesPart_1 (by decide) ?_
  refine x_iconst (v := (-1 : Int32)) C dX3_takesPart_2 (by decide) ?_
  have s1 := And.left hok
  have hok := And.right hok
  obtain ⟨z2, hz2⟩ : ∃ y9 : Int32 × gM, y9 = f_r_takesPage m (0 : Int32) (-1 : Int32) := ⟨_, rfl⟩
  have hf := hf.trans (g_let_eq hz2)
  have hok := g_let_p hz2 hok
  have hmz2 : gMi l yX3_takesPage wsX3_takesPage rm_r_takesPage G shM q m h [.ref (q 0), .int (0 : Int32), .int (-1 : Int32)] z2.2 h z2.1 := by rw [hz2]; exact c_r_takesPage l G q m h (0 : Int32) (-1 : Int32) s1
  refine x_callVi (n := 2) C hq gFr_same (hmz2) (cwV 2 C.2.2.2.2.2.1 gX3_takesPart_X3_takesPage rfl rfl rfl (by decide +kernel) ⟨Nat.le_of_ble_eq_true rfl, Nat.le_of_ble_eq_true rfl⟩) rfl rfl rfl rfl (Nat.le_of_ble_eq_true rfl) dX3_takesPart_3 (Nat.zero_le _) (Nat.zero_le _) ?_
  refine x_if_ne (tgt := 11) C dX3_takesPart_6 (by decide) (fun c3 => ?_) (fun c3 => ?_)
  · have hf := hf.trans (if_neg c3)
    have hok := g_in c3 hok
    refine x_aload_n C dX3_takesPart_11 rfl 0 rfl ?_
    refine x_get (v := .ref (q 5)) C in_X3_takesPart_3 0 rfl rfl 9 (by decide) k_X3_takesPart_22 rfl rfl dX3_takesPart_12 ?_
    refine x_iconst (v := (3 : Int32)) C dX3_takesPart_15 (by decide) ?_
    refine x_aload_n C dX3_takesPart_16 rfl 0 rfl ?_
    refine x_get (v := .int (z2.2 0 10)) C in_X3_takesPart_3 0 rfl rfl 10 (by decide) k_X3_takesPart_115 rfl rfl dX3_takesPart_17 ?_
    refine x_imul C dX3_takesPart_20 ?_
    have s4 := And.left hok
    have hok := And.right hok
    refine x_iald (n := 96) (v := (z2.2 5 ((3 : Int32) * (z2.2 0 10)).toNatClampNeg)) C 5 rfl s4 rfl dX3_takesPart_21 ?_
    obtain ⟨z5, hz5⟩ : ∃ y9 : Int32, y9 = (z2.2 5 ((3 : Int32) * (z2.2 0 10)).toNatClampNeg) := ⟨_, rfl⟩
    have hf := hf.trans (g_let_eq hz5)
    have hok := g_let_p hz5 hok
    refine x_topi hz5 ?_
    refine x_istore_n (lv' := [(0, .ref (q 0)), (1, .int z5)]) C dX3_takesPart_22 rfl (by decide) [1, 0] rfl ?_
    refine x_aload_n C dX3_takesPart_23 rfl 0 rfl ?_
    refine x_get (v := .ref (q 5)) C in_X3_takesPart_3 0 rfl rfl 9 (by decide) k_X3_takesPart_22 rfl rfl dX3_takesPart_24 ?_
    refine x_iconst (v := (3 : Int32)) C dX3_takesPart_27 (by decide) ?_
    refine x_aload_n C dX3_takesPart_28 rfl 0 rfl ?_
    refine x_get (v := .int (z2.2 0 10)) C in_X3_takesPart_3 0 rfl rfl 10 (by decide) k_X3_takesPart_115 rfl rfl dX3_takesPart_29 ?_
    refine x_imul C dX3_takesPart_32 ?_
    refine x_iconst (v := (1 : Int32)) C dX3_takesPart_33 (by decide) ?_
    refine x_iadd C dX3_takesPart_34 ?_
    refine x_iload_n C dX3_takesPart_35 rfl 1 rfl ?_
    have s6 := And.left hok
    have hok := And.right hok
    obtain ⟨z7, hz7⟩ : ∃ y9 : gM, y9 = g_set z2.2 5 (upd (z2.2 5) (((3 : Int32) * (z2.2 0 10)) + (1 : Int32)).toNatClampNeg z5) := ⟨_, rfl⟩
    have hf := hf.trans (g_let_eq hz7)
    have hok := g_let_p hz7 hok
    refine x_iast (μ' := z7) (n := 96) C hq 5 rfl s6 hz7 dX3_takesPart_36 ?_
    refine x_aload_n C dX3_takesPart_37 rfl 0 rfl ?_
    refine x_get (v := .ref (q 5)) C in_X3_takesPart_3 0 rfl rfl 9 (by decide) k_X3_takesPart_22 rfl rfl dX3_takesPart_38 ?_
    refine x_iconst (v := (3 : Int32)) C dX3_takesPart_41 (by decide) ?_
    refine x_aload_n C dX3_takesPart_42 rfl 0 rfl ?_
    refine x_get (v := .int (z7 0 10)) C in_X3_takesPart_3 0 rfl rfl 10 (by decide) k_X3_takesPart_115 rfl rfl dX3_takesPart_43 ?_
    refine x_imul C dX3_takesPart_46 ?_
    refine x_iconst (v := (2 : Int32)) C dX3_takesPart_47 (by decide) ?_
    refine x_iadd C dX3_takesPart_48 ?_
    refine x_iconst (v := (0 : Int32)) C dX3_takesPart_49 (by decide) ?_
    have s8 := And.left hok
    have hok := And.right hok
    obtain ⟨z9, hz9⟩ : ∃ y9 : gM, y9 = g_set z7 5 (upd (z7 5) (((3 : Int32) * (z7 0 10)) + (2 : Int32)).toNatClampNeg (0 : Int32)) := ⟨_, rfl⟩
    have hf := hf.trans (g_let_eq hz9)
    have hok := g_let_p hz9 hok
    refine x_iast (μ' := z9) (n := 96) C hq 5 rfl s8 hz9 dX3_takesPart_50 ?_
    refine x_iload_n C dX3_takesPart_51 rfl 1 rfl ?_
    refine x_bipush (v := (39 : Int32)) C dX3_takesPart_52 (by decide) ?_
    refine x_icmp_ge (tgt := 77) C dX3_takesPart_54 (by decide) (fun c10 => ?_) (fun c10 => ?_)
    · have hf := hf.trans (if_pos c10)
      have hok := g_ip c10 hok
      refine x_aload_n C dX3_takesPart_77 rfl 0 rfl ?_
      refine x_bipush (v := (104 : Int32)) C dX3_takesPart_78 (by decide) ?_
      have s11 := And.left hok
      have hok := And.right hok
      obtain ⟨z12, hz12⟩ : ∃ y9 : Int32 × gM, y9 = f_r_takes z9 (104 : Int32) := ⟨_, rfl⟩
      have hf := hf.trans (g_let_eq hz12)
      have hok := g_let_p hz12 hok
      have hmz12 : gMi l yX3_takes wsX3_takes rm_r_takes G shM q z9 h [.ref (q 0), .int (104 : Int32)] z12.2 h z12.1 := by rw [hz12]; exact c_r_takes l G q z9 h (104 : Int32) s11
      refine x_callVi (n := 1) C hq gFr_same (hmz12) (cwV 1 C.2.2.2.2.2.1 gX3_takesPart_X3_takes rfl rfl rfl (by decide +kernel) ⟨Nat.le_of_ble_eq_true rfl, Nat.le_of_ble_eq_true rfl⟩) rfl rfl rfl rfl (Nat.le_of_ble_eq_true rfl) dX3_takesPart_80 (Nat.zero_le _) (Nat.zero_le _) ?_
      refine x_if_eq (tgt := 137) C dX3_takesPart_83 (by decide) (fun c13 => ?_) (fun c13 => ?_)
      · have hf := hf.trans (if_pos c13)
        have hok := g_ip c13 hok
        refine x_iconst (v := (1 : Int32)) C dX3_takesPart_137 (by decide) ?_
        exact g_iret C hr (g_nz (Or.inr rfl)) dX3_takesPart_138 (congrArg (fun z => z.1) hf).symm (congrArg (fun z => z.2) hf).symm rfl
      · have hf := hf.trans (if_neg c13)
        have hok := g_in c13 hok
        refine x_aload_n C dX3_takesPart_86 rfl 0 rfl ?_
        refine x_bipush (v := (48 : Int32)) C dX3_takesPart_87 (by decide) ?_
        refine x_bipush (v := (51 : Int32)) C dX3_takesPart_89 (by decide) ?_
        have s14 := And.left hok
        have hok := And.right hok
        refine x_callVi (n := 2) C hq gFr_same (c_r_isAt l G q z12.2 h (48 : Int32) (51 : Int32) s14) (cwV 2 C.2.2.2.2.2.1 gX3_takesPart_X3_isAt rfl rfl rfl (by decide +kernel) ⟨Nat.le_of_ble_eq_true rfl, Nat.le_of_ble_eq_true rfl⟩) rfl rfl rfl rfl (Nat.le_of_ble_eq_true rfl) dX3_takesPart_91 (Nat.zero_le _) (Nat.zero_le _) ?_
        refine x_if_ne (tgt := 102) C dX3_takesPart_94 (by decide) (fun c15 => ?_) (fun c15 => ?_)
        · have hf := hf.trans (if_neg c15)
          have hok := g_in c15 hok
          refine x_aload_n C dX3_takesPart_102 rfl 0 rfl ?_
          refine x_get (v := .ref (q 5)) C in_X3_takesPart_3 0 rfl rfl 9 (by decide) k_X3_takesPart_22 rfl rfl dX3_takesPart_103 ?_
          refine x_iconst (v := (3 : Int32)) C dX3_takesPart_106 (by decide) ?_
          refine x_aload_n C dX3_takesPart_107 rfl 0 rfl ?_
          refine x_get (v := .int (z12.2 0 10)) C in_X3_takesPart_3 0 rfl rfl 10 (by decide) k_X3_takesPart_115 rfl rfl dX3_takesPart_108 ?_
          refine x_imul C dX3_takesPart_111 ?_
          refine x_iconst (v := (2 : Int32)) C dX3_takesPart_112 (by decide) ?_
          refine x_iadd C dX3_takesPart_113 ?_
          refine x_aload_n C dX3_takesPart_114 rfl 0 rfl ?_
          refine x_get (v := .ref (q 4)) C in_X3_takesPart_3 0 rfl rfl 4 (by decide) k_X3_takesPart_19 rfl rfl dX3_takesPart_115 ?_
          refine x_aload_n C dX3_takesPart_118 rfl 0 rfl ?_
          refine x_get (v := .int (z12.2 0 7)) C in_X3_takesPart_3 0 rfl rfl 7 (by decide) k_X3_takesPart_101 rfl rfl dX3_takesPart_119 ?_
          have s16 := And.left hok
          have hok := And.right hok
          refine x_iald (n := 60) (v := (z12.2 4 (z12.2 0 7).toNatClampNeg)) C 4 rfl s16 rfl dX3_takesPart_122 ?_
          refine x_bipush (v := (48 : Int32)) C dX3_takesPart_123 (by decide) ?_
          refine x_isub C dX3_takesPart_125 ?_
          have s17 := And.left hok
          have hok := And.right hok
          obtain ⟨z18, hz18⟩ : ∃ y9 : gM, y9 = g_set z12.2 5 (upd (z12.2 5) (((3 : Int32) * (z12.2 0 10)) + (2 : Int32)).toNatClampNeg ((z12.2 4 (z12.2 0 7).toNatClampNeg) - (48 : Int32))) := ⟨_, rfl⟩
          have hf := hf.trans (g_let_eq hz18)
          have hok := g_let_p hz18 hok
          refine x_iast (μ' := z18) (n := 96) C hq 5 rfl s17 hz18 dX3_takesPart_126 ?_
          refine x_aload_n C dX3_takesPart_127 rfl 0 rfl ?_
          refine x_dup C dX3_takesPart_128 rfl ?_
          refine x_get (v := .int (z18 0 7)) C in_X3_takesPart_3 0 rfl rfl 7 (by decide) k_X3_takesPart_101 rfl rfl dX3_takesPart_129 ?_
          refine x_iconst (v := (1 : Int32)) C dX3_takesPart_132 (by decide) ?_
          refine x_iadd C dX3_takesPart_133 ?_
          obtain ⟨z19, hz19⟩ : ∃ y9 : gM, y9 = g_set z18 0 (upd (z18 0) 7 ((z18 0 7) + (1 : Int32))) := ⟨_, rfl⟩
          have hf := hf.trans (g_let_eq hz19)
          have hok := g_let_p hz19 hok
          refine x_puti (μ' := z19) (ty := .int) C hq tyX3 tyX3_ok nmX3 in_X3_takesPart_3 0 rfl rfl 7 (by decide) k_X3_takesPart_101 rfl (tyX3_ok 7 (by decide)) rfl rfl rfl hz19 dX3_takesPart_134 ?_
          refine x_iconst (v := (1 : Int32)) C dX3_takesPart_137 (by decide) ?_
          exact g_iret C hr (g_nz (Or.inr rfl)) dX3_takesPart_138 (congrArg (fun z => z.1) hf).symm (congrArg (fun z => z.2) hf).symm rfl
        · have hf := hf.trans (if_pos c15)
          have hok := g_ip c15 hok
          refine x_aload_n C dX3_takesPart_97 rfl 0 rfl ?_
          have s20 := And.left hok
          have hok := And.right hok
          obtain ⟨z21, hz21⟩ : ∃ y9 : Int32 × gM, y9 = f_r_stops z12.2 := ⟨_, rfl⟩
          have hf := hf.trans (g_let_eq hz21)
          have hok := g_let_p hz21 hok
          have hmz21 : gMi l yX3_stops wsX3_stops rm_r_stops G shM q z12.2 h [.ref (q 0)] z21.2 h z21.1 := by rw [hz21]; exact c_r_stops l G q z12.2 h s20
          refine x_callVi (n := 0) C hq gFr_same (hmz21) (cwV 0 C.2.2.2.2.2.1 gX3_takesPart_X3_stops rfl rfl rfl (by decide +kernel) ⟨Nat.le_of_ble_eq_true rfl, Nat.le_of_ble_eq_true rfl⟩) rfl rfl rfl rfl (Nat.le_of_ble_eq_true rfl) dX3_takesPart_98 (Nat.zero_le _) (Nat.zero_le _) ?_
          have h01 := And.left hok
          exact g_iret C hr (g_nz h01) dX3_takesPart_101 (congrArg (fun z => z.1) hf).symm (congrArg (fun z => z.2) hf).symm rfl
    · have hf := hf.trans (if_neg c10)
      have hok := g_in c10 hok
      refine x_aload_n C dX3_takesPart_57 rfl 0 rfl ?_
      refine x_bipush (v := (45 : Int32)) C dX3_takesPart_58 (by decide) ?_
      have s22 := And.left hok
      have hok := And.right hok
      obtain ⟨z23, hz23⟩ : ∃ y9 : Int32 × gM, y9 = f_r_takes z9 (45 : Int32) := ⟨_, rfl⟩
      have hf := hf.trans (g_let_eq hz23)
      have hok := g_let_p hz23 hok
      have hmz23 : gMi l yX3_takes wsX3_takes rm_r_takes G shM q z9 h [.ref (q 0), .int (45 : Int32)] z23.2 h z23.1 := by rw [hz23]; exact c_r_takes l G q z9 h (45 : Int32) s22
      refine x_callVi (n := 1) C hq gFr_same (hmz23) (cwV 1 C.2.2.2.2.2.1 gX3_takesPart_X3_takes rfl rfl rfl (by decide +kernel) ⟨Nat.le_of_ble_eq_true rfl, Nat.le_of_ble_eq_true rfl⟩) rfl rfl rfl rfl (Nat.le_of_ble_eq_true rfl) dX3_takesPart_60 (Nat.zero_le _) (Nat.zero_le _) ?_
      refine x_if_eq (tgt := 77) C dX3_takesPart_63 (by decide) (fun c24 => ?_) (fun c24 => ?_)
      · have hf := hf.trans (if_pos c24)
        have hok := g_ip c24 hok
        refine x_aload_n C dX3_takesPart_77 rfl 0 rfl ?_
        refine x_bipush (v := (104 : Int32)) C dX3_takesPart_78 (by decide) ?_
        have s25 := And.left hok
        have hok := And.right hok
        obtain ⟨z26, hz26⟩ : ∃ y9 : Int32 × gM, y9 = f_r_takes z23.2 (104 : Int32) := ⟨_, rfl⟩
        have hf := hf.trans (g_let_eq hz26)
        have hok := g_let_p hz26 hok
        have hmz26 : gMi l yX3_takes wsX3_takes rm_r_takes G shM q z23.2 h [.ref (q 0), .int (104 : Int32)] z26.2 h z26.1 := by rw [hz26]; exact c_r_takes l G q z23.2 h (104 : Int32) s25
        refine x_callVi (n := 1) C hq gFr_same (hmz26) (cwV 1 C.2.2.2.2.2.1 gX3_takesPart_X3_takes rfl rfl rfl (by decide +kernel) ⟨Nat.le_of_ble_eq_true rfl, Nat.le_of_ble_eq_true rfl⟩) rfl rfl rfl rfl (Nat.le_of_ble_eq_true rfl) dX3_takesPart_80 (Nat.zero_le _) (Nat.zero_le _) ?_
        refine x_if_eq (tgt := 137) C dX3_takesPart_83 (by decide) (fun c27 => ?_) (fun c27 => ?_)
        · have hf := hf.trans (if_pos c27)
          have hok := g_ip c27 hok
          refine x_iconst (v := (1 : Int32)) C dX3_takesPart_137 (by decide) ?_
          exact g_iret C hr (g_nz (Or.inr rfl)) dX3_takesPart_138 (congrArg (fun z => z.1) hf).symm (congrArg (fun z => z.2) hf).symm rfl
        · have hf := hf.trans (if_neg c27)
          have hok := g_in c27 hok
          refine x_aload_n C dX3_takesPart_86 rfl 0 rfl ?_
          refine x_bipush (v := (48 : Int32)) C dX3_takesPart_87 (by decide) ?_
          refine x_bipush (v := (51 : Int32)) C dX3_takesPart_89 (by decide) ?_
          have s28 := And.left hok
          have hok := And.right hok
          refine x_callVi (n := 2) C hq gFr_same (c_r_isAt l G q z26.2 h (48 : Int32) (51 : Int32) s28) (cwV 2 C.2.2.2.2.2.1 gX3_takesPart_X3_isAt rfl rfl rfl (by decide +kernel) ⟨Nat.le_of_ble_eq_true rfl, Nat.le_of_ble_eq_true rfl⟩) rfl rfl rfl rfl (Nat.le_of_ble_eq_true rfl) dX3_takesPart_91 (Nat.zero_le _) (Nat.zero_le _) ?_
          refine x_if_ne (tgt := 102) C dX3_takesPart_94 (by decide) (fun c29 => ?_) (fun c29 => ?_)
          · have hf := hf.trans (if_neg c29)
            have hok := g_in c29 hok
            refine x_aload_n C dX3_takesPart_102 rfl 0 rfl ?_
            refine x_get (v := .ref (q 5)) C in_X3_takesPart_3 0 rfl rfl 9 (by decide) k_X3_takesPart_22 rfl rfl dX3_takesPart_103 ?_
            refine x_iconst (v := (3 : Int32)) C dX3_takesPart_106 (by decide) ?_
            refine x_aload_n C dX3_takesPart_107 rfl 0 rfl ?_
            refine x_get (v := .int (z26.2 0 10)) C in_X3_takesPart_3 0 rfl rfl 10 (by decide) k_X3_takesPart_115 rfl rfl dX3_takesPart_108 ?_
            refine x_imul C dX3_takesPart_111 ?_
            refine x_iconst (v := (2 : Int32)) C dX3_takesPart_112 (by decide) ?_
            refine x_iadd C dX3_takesPart_113 ?_
            refine x_aload_n C dX3_takesPart_114 rfl 0 rfl ?_
            refine x_get (v := .ref (q 4)) C in_X3_takesPart_3 0 rfl rfl 4 (by decide) k_X3_takesPart_19 rfl rfl dX3_takesPart_115 ?_
            refine x_aload_n C dX3_takesPart_118 rfl 0 rfl ?_
            refine x_get (v := .int (z26.2 0 7)) C in_X3_takesPart_3 0 rfl rfl 7 (by decide) k_X3_takesPart_101 rfl rfl dX3_takesPart_119 ?_
            have s30 := And.left hok
            have hok := And.right hok
            refine x_iald (n := 60) (v := (z26.2 4 (z26.2 0 7).toNatClampNeg)) C 4 rfl s30 rfl dX3_takesPart_122 ?_
            refine x_bipush (v := (48 : Int32)) C dX3_takesPart_123 (by decide) ?_
            refine x_isub C dX3_takesPart_125 ?_
            have s31 := And.left hok
            have hok := And.right hok
            obtain ⟨z32, hz32⟩ : ∃ y9 : gM, y9 = g_set z26.2 5 (upd (z26.2 5) (((3 : Int32) * (z26.2 0 10)) + (2 : Int32)).toNatClampNeg ((z26.2 4 (z26.2 0 7).toNatClampNeg) - (48 : Int32))) := ⟨_, rfl⟩
            have hf := hf.trans (g_let_eq hz32)
            have hok := g_let_p hz32 hok
            refine x_iast (μ' := z32) (n := 96) C hq 5 rfl s31 hz32 dX3_takesPart_126 ?_
            refine x_aload_n C dX3_takesPart_127 rfl 0 rfl ?_
            refine x_dup C dX3_takesPart_128 rfl ?_
            refine x_get (v := .int (z32 0 7)) C in_X3_takesPart_3 0 rfl rfl 7 (by decide) k_X3_takesPart_101 rfl rfl dX3_takesPart_129 ?_
            refine x_iconst (v := (1 : Int32)) C dX3_takesPart_132 (by decide) ?_
            refine x_iadd C dX3_takesPart_133 ?_
            obtain ⟨z33, hz33⟩ : ∃ y9 : gM, y9 = g_set z32 0 (upd (z32 0) 7 ((z32 0 7) + (1 : Int32))) := ⟨_, rfl⟩
            have hf := hf.trans (g_let_eq hz33)
            have hok := g_let_p hz33 hok
            refine x_puti (μ' := z33) (ty := .int) C hq tyX3 tyX3_ok nmX3 in_X3_takesPart_3 0 rfl rfl 7 (by decide) k_X3_takesPart_101 rfl (tyX3_ok 7 (by decide)) rfl rfl rfl hz33 dX3_takesPart_134 ?_
            refine x_iconst (v := (1 : Int32)) C dX3_takesPart_137 (by decide) ?_
            exact g_iret C hr (g_nz (Or.inr rfl)) dX3_takesPart_138 (congrArg (fun z => z.1) hf).symm (congrArg (fun z => z.2) hf).symm rfl
          · have hf := hf.trans (if_pos c29)
            have hok := g_ip c29 hok
            refine x_aload_n C dX3_takesPart_97 rfl 0 rfl ?_
            have s34 := And.left hok
            have hok := And.right hok
            obtain ⟨z35, hz35⟩ : ∃ y9 : Int32 × gM, y9 = f_r_stops z26.2 := ⟨_, rfl⟩
            have hf := hf.trans (g_let_eq hz35)
            have hok := g_let_p hz35 hok
            have hmz35 : gMi l yX3_stops wsX3_stops rm_r_stops G shM q z26.2 h [.ref (q 0)] z35.2 h z35.1 := by rw [hz35]; exact c_r_stops l G q z26.2 h s34
            refine x_callVi (n := 0) C hq gFr_same (hmz35) (cwV 0 C.2.2.2.2.2.1 gX3_takesPart_X3_stops rfl rfl rfl (by decide +kernel) ⟨Nat.le_of_ble_eq_true rfl, Nat.le_of_ble_eq_true rfl⟩) rfl rfl rfl rfl (Nat.le_of_ble_eq_true rfl) dX3_takesPart_98 (Nat.zero_le _) (Nat.zero_le _) ?_
            have h01 := And.left hok
            exact g_iret C hr (g_nz h01) dX3_takesPart_101 (congrArg (fun z => z.1) hf).symm (congrArg (fun z => z.2) hf).symm rfl
      · have hf := hf.trans (if_neg c24)
        have hok := g_in c24 hok
        refine x_aload_n C dX3_takesPart_66 rfl 0 rfl ?_
        refine x_iconst (v := (1 : Int32)) C dX3_takesPart_67 (by decide) ?_
        refine x_iload_n C dX3_takesPart_68 rfl 1 rfl ?_
        have s36 := And.left hok
        have hok := And.right hok
        obtain ⟨z37, hz37⟩ : ∃ y9 : Int32 × gM, y9 = f_r_takesPage z23.2 (1 : Int32) z5 := ⟨_, rfl⟩
        have hf := hf.trans (g_let_eq hz37)
        have hok := g_let_p hz37 hok
        have hmz37 : gMi l yX3_takesPage wsX3_takesPage rm_r_takesPage G shM q z23.2 h [.ref (q 0), .int (1 : Int32), .int z5] z37.2 h z37.1 := by rw [hz37]; exact c_r_takesPage l G q z23.2 h (1 : Int32) z5 s36
        refine x_callVi (n := 2) C hq gFr_same (hmz37) (cwV 2 C.2.2.2.2.2.1 gX3_takesPart_X3_takesPage rfl rfl rfl (by decide +kernel) ⟨Nat.le_of_ble_eq_true rfl, Nat.le_of_ble_eq_true rfl⟩) rfl rfl rfl rfl (Nat.le_of_ble_eq_true rfl) dX3_takesPart_69 (Nat.zero_le _) (Nat.zero_le _) ?_
        refine x_if_ne (tgt := 77) C dX3_takesPart_72 (by decide) (fun c38 => ?_) (fun c38 => ?_)
        · have hf := hf.trans (if_neg c38)
          have hok := g_in c38 hok
          refine x_aload_n C dX3_takesPart_77 rfl 0 rfl ?_
          refine x_bipush (v := (104 : Int32)) C dX3_takesPart_78 (by decide) ?_
          have s39 := And.left hok
          have hok := And.right hok
          obtain ⟨z40, hz40⟩ : ∃ y9 : Int32 × gM, y9 = f_r_takes z37.2 (104 : Int32) := ⟨_, rfl⟩
          have hf := hf.trans (g_let_eq hz40)
          have hok := g_let_p hz40 hok
          have hmz40 : gMi l yX3_takes wsX3_takes rm_r_takes G shM q z37.2 h [.ref (q 0), .int (104 : Int32)] z40.2 h z40.1 := by rw [hz40]; exact c_r_takes l G q z37.2 h (104 : Int32) s39
          refine x_callVi (n := 1) C hq gFr_same (hmz40) (cwV 1 C.2.2.2.2.2.1 gX3_takesPart_X3_takes rfl rfl rfl (by decide +kernel) ⟨Nat.le_of_ble_eq_true rfl, Nat.le_of_ble_eq_true rfl⟩) rfl rfl rfl rfl (Nat.le_of_ble_eq_true rfl) dX3_takesPart_80 (Nat.zero_le _) (Nat.zero_le _) ?_
          refine x_if_eq (tgt := 137) C dX3_takesPart_83 (by decide) (fun c41 => ?_) (fun c41 => ?_)
          · have hf := hf.trans (if_pos c41)
            have hok := g_ip c41 hok
            refine x_iconst (v := (1 : Int32)) C dX3_takesPart_137 (by decide) ?_
            exact g_iret C hr (g_nz (Or.inr rfl)) dX3_takesPart_138 (congrArg (fun z => z.1) hf).symm (congrArg (fun z => z.2) hf).symm rfl
          · have hf := hf.trans (if_neg c41)
            have hok := g_in c41 hok
            refine x_aload_n C dX3_takesPart_86 rfl 0 rfl ?_
            refine x_bipush (v := (48 : Int32)) C dX3_takesPart_87 (by decide) ?_
            refine x_bipush (v := (51 : Int32)) C dX3_takesPart_89 (by decide) ?_
            have s42 := And.left hok
            have hok := And.right hok
            refine x_callVi (n := 2) C hq gFr_same (c_r_isAt l G q z40.2 h (48 : Int32) (51 : Int32) s42) (cwV 2 C.2.2.2.2.2.1 gX3_takesPart_X3_isAt rfl rfl rfl (by decide +kernel) ⟨Nat.le_of_ble_eq_true rfl, Nat.le_of_ble_eq_true rfl⟩) rfl rfl rfl rfl (Nat.le_of_ble_eq_true rfl) dX3_takesPart_91 (Nat.zero_le _) (Nat.zero_le _) ?_
            refine x_if_ne (tgt := 102) C dX3_takesPart_94 (by decide) (fun c43 => ?_) (fun c43 => ?_)
            · have hf := hf.trans (if_neg c43)
              have hok := g_in c43 hok
              refine x_aload_n C dX3_takesPart_102 rfl 0 rfl ?_
              refine x_get (v := .ref (q 5)) C in_X3_takesPart_3 0 rfl rfl 9 (by decide) k_X3_takesPart_22 rfl rfl dX3_takesPart_103 ?_
              refine x_iconst (v := (3 : Int32)) C dX3_takesPart_106 (by decide) ?_
              refine x_aload_n C dX3_takesPart_107 rfl 0 rfl ?_
              refine x_get (v := .int (z40.2 0 10)) C in_X3_takesPart_3 0 rfl rfl 10 (by decide) k_X3_takesPart_115 rfl rfl dX3_takesPart_108 ?_
              refine x_imul C dX3_takesPart_111 ?_
              refine x_iconst (v := (2 : Int32)) C dX3_takesPart_112 (by decide) ?_
              refine x_iadd C dX3_takesPart_113 ?_
              refine x_aload_n C dX3_takesPart_114 rfl 0 rfl ?_
              refine x_get (v := .ref (q 4)) C in_X3_takesPart_3 0 rfl rfl 4 (by decide) k_X3_takesPart_19 rfl rfl dX3_takesPart_115 ?_
              refine x_aload_n C dX3_takesPart_118 rfl 0 rfl ?_
              refine x_get (v := .int (z40.2 0 7)) C in_X3_takesPart_3 0 rfl rfl 7 (by decide) k_X3_takesPart_101 rfl rfl dX3_takesPart_119 ?_
              have s44 := And.left hok
              have hok := And.right hok
              refine x_iald (n := 60) (v := (z40.2 4 (z40.2 0 7).toNatClampNeg)) C 4 rfl s44 rfl dX3_takesPart_122 ?_
              refine x_bipush (v := (48 : Int32)) C dX3_takesPart_123 (by decide) ?_
              refine x_isub C dX3_takesPart_125 ?_
              have s45 := And.left hok
              have hok := And.right hok
              obtain ⟨z46, hz46⟩ : ∃ y9 : gM, y9 = g_set z40.2 5 (upd (z40.2 5) (((3 : Int32) * (z40.2 0 10)) + (2 : Int32)).toNatClampNeg ((z40.2 4 (z40.2 0 7).toNatClampNeg) - (48 : Int32))) := ⟨_, rfl⟩
              have hf := hf.trans (g_let_eq hz46)
              have hok := g_let_p hz46 hok
              refine x_iast (μ' := z46) (n := 96) C hq 5 rfl s45 hz46 dX3_takesPart_126 ?_
              refine x_aload_n C dX3_takesPart_127 rfl 0 rfl ?_
              refine x_dup C dX3_takesPart_128 rfl ?_
              refine x_get (v := .int (z46 0 7)) C in_X3_takesPart_3 0 rfl rfl 7 (by decide) k_X3_takesPart_101 rfl rfl dX3_takesPart_129 ?_
              refine x_iconst (v := (1 : Int32)) C dX3_takesPart_132 (by decide) ?_
              refine x_iadd C dX3_takesPart_133 ?_
              obtain ⟨z47, hz47⟩ : ∃ y9 : gM, y9 = g_set z46 0 (upd (z46 0) 7 ((z46 0 7) + (1 : Int32))) := ⟨_, rfl⟩
              have hf := hf.trans (g_let_eq hz47)
              have hok := g_let_p hz47 hok
              refine x_puti (μ' := z47) (ty := .int) C hq tyX3 tyX3_ok nmX3 in_X3_takesPart_3 0 rfl rfl 7 (by decide) k_X3_takesPart_101 rfl (tyX3_ok 7 (by decide)) rfl rfl rfl hz47 dX3_takesPart_134 ?_
              refine x_iconst (v := (1 : Int32)) C dX3_takesPart_137 (by decide) ?_
              exact g_iret C hr (g_nz (Or.inr rfl)) dX3_takesPart_138 (congrArg (fun z => z.1) hf).symm (congrArg (fun z => z.2) hf).symm rfl
            · have hf := hf.trans (if_pos c43)
              have hok := g_ip c43 hok
              refine x_aload_n C dX3_takesPart_97 rfl 0 rfl ?_
              have s48 := And.left hok
              have hok := And.right hok
              obtain ⟨z49, hz49⟩ : ∃ y9 : Int32 × gM, y9 = f_r_stops z40.2 := ⟨_, rfl⟩
              have hf := hf.trans (g_let_eq hz49)
              have hok := g_let_p hz49 hok
              have hmz49 : gMi l yX3_stops wsX3_stops rm_r_stops G shM q z40.2 h [.ref (q 0)] z49.2 h z49.1 := by rw [hz49]; exact c_r_stops l G q z40.2 h s48
              refine x_callVi (n := 0) C hq gFr_same (hmz49) (cwV 0 C.2.2.2.2.2.1 gX3_takesPart_X3_stops rfl rfl rfl (by decide +kernel) ⟨Nat.le_of_ble_eq_true rfl, Nat.le_of_ble_eq_true rfl⟩) rfl rfl rfl rfl (Nat.le_of_ble_eq_true rfl) dX3_takesPart_98 (Nat.zero_le _) (Nat.zero_le _) ?_
              have h01 := And.left hok
              exact g_iret C hr (g_nz h01) dX3_takesPart_101 (congrArg (fun z => z.1) hf).symm (congrArg (fun z => z.2) hf).symm rfl
        · have hf := hf.trans (if_pos c38)
          have hok := g_ip c38 hok
          refine x_iconst (v := (0 : Int32)) C dX3_takesPart_75 (by decide) ?_
          exact g_iret C hr (g_nz (Or.inl rfl)) dX3_takesPart_76 (congrArg (fun z => z.1) hf).symm (congrArg (fun z => z.2) hf).symm rfl
  · have hf := hf.trans (if_pos c3)
    have hok := g_ip c3 hok
    refine x_iconst (v := (0 : Int32)) C dX3_takesPart_9 (by decide) ?_
    exact g_iret C hr (g_nz (Or.inl rfl)) dX3_takesPart_10 (congrArg (fun z => z.1) hf).symm (congrArg (fun z => z.2) hf).symm rfl
set_option maxRecDepth 20000 in
theorem in_X3_isText_3 : ∀ w ∈ u_ws RX3 TX3 12, w ∈ wsX3_isText := by decide +kernel
set_option maxRecDepth 20000 in
theorem k_X3_isText_101 : Cond.fieldLink RX3 101 "HintedPagesModel" "at" "I" ∈ wsX3_isText := by decide +kernel
set_option maxRecDepth 20000 in
theorem k_X3_isText_104 : Cond.fieldLink RX3 104 "HintedPagesModel" "isFault" "Z" ∈ wsX3_isText := by decide +kernel
set_option maxRecDepth 20000 in
theorem k_X3_isText_115 : Cond.fieldLink RX3 115 "HintedPagesModel" "tolds" "I" ∈ wsX3_isText := by decide +kernel
set_option maxRecDepth 20000 in
theorem k_X3_isText_98 : Cond.fieldLink RX3 98 "HintedPagesModel" "typed" "I" ∈ wsX3_isText := by decide +kernel
abbrev rm_r_isText : Room := { frames := 4, cells := 0, slots := 0, locals := 89 }
noncomputable def L_r_isText_17  (z : Int32 × gM × Nat) : Bool × (Int32 × gM × Nat) := (if z.1 = 0 then (false, (z.1, z.2.1, 0)) else g_let (f_r_takesPart z.2.1) (fun z3 : Int32 × gM => (if z3.1 = 0 then (false, (z.1, z3.2, 1)) else g_let (g_set z3.2 0 (upd (z3.2 0) 10 ((z3.2 0 10) + (1 : Int32)))) (fun z5 : gM => g_let (f_r_takes z5 (59 : Int32)) (fun z7 : Int32 × gM => (true, (z7.1, z7.2, 0)))))))
noncomputable def K_r_isText_17  (z : Int32 × gM × Nat) : Prop := (if z.1 = 0 then True else (o_r_takesPart z.2.1) ∧ (g_let (f_r_takesPart z.2.1) (fun z3 : Int32 × gM => (if z3.1 = 0 then True else g_let (g_set z3.2 0 (upd (z3.2 0) 10 ((z3.2 0 10) + (1 : Int32)))) (fun z5 : gM => (o_r_takes z5 (59 : Int32)) ∧ (g_let (f_r_takes z5 (59 : Int32)) (fun z7 : Int32 × gM => True)))))))
set_option maxRecDepth 100000 in
set_option maxHeartbeats 4000000 in
theorem lp_r_isText_17 {p : Program} {l : Launch} {e : Env} {s : State} {m9 : MethodId} {args : Array Value} {below : List Frame} {meth : Method} {c : Code} {G : gG} {A : Nat → Prop} {Q : State → Prop} {q : Nat → Nat} (C : xC p s m9 args meth c G A 2 cX3_isText RX3 wsX3_isText) (hq : gD A q shM.length) (h : gN) : ∀ (n : Nat) (z : Int32 × gM × Nat), rOk L_r_isText_17 K_r_isText_17 n z → (∀ z' : Int32 × gM × Nat, run L_r_isText_17 n z = z' → z'.2.2 = (0 : Nat) → xJ p l e rm_r_isText s m9 args below meth c G A 2 Q 0 0 shM q z'.2.1 h [(0, .ref (q 0)), (1, .int z'.1)] [] 50) → (∀ z' : Int32 × gM × Nat, run L_r_isText_17 n z = z' → z'.2.2 = (1 : Nat) → xJ p l e rm_r_isText s m9 args below meth c G A 2 Q 0 0 shM q z'.2.1 h [(0, .ref (q 0)), (1, .int z'.1)] [] 28) → xJ p l e rm_r_isText s m9 args below meth c G A 2 Q 0 0 shM q z.2.1 h [(0, .ref (q 0)), (1, .int z.1)] [] 17 := by
  intro n
  induction n with
  | zero =>
    intro z hok _ _
    exact rOk_0 hok
  | succ n ih =>
    intro z hok K0 K1
    have hnx := rOk_2 hok
    have hok := rOk_1 hok
    have hf := L_r_isText_17.eq_1 z
    have hok := Eq.mp (K_r_isText_17.eq_1 z) hok
    refine x_iload_n C dX3_isText_17 rfl 1 rfl ?_
    refine x_if_eq (tgt := 50) C dX3_isText_18 (by decide) (fun c1 => ?_) (fun c1 => ?_)
    · have hf := hf.trans (if_pos c1)
      have hok := g_ip c1 hok
      exact K0 ((z.1, z.2.1, 0)) (run_f hf) rfl
    · have hf := hf.trans (if_neg c1)
      have hok := g_in c1 hok
      refine x_aload_n C dX3_isText_21 rfl 0 rfl ?_
      have s2 := And.left hok
      have hok := And.right hok
      obtain ⟨z3, hz3⟩ : ∃ y9 : Int32 × gM, y9 = f_r_takesPart z.2.1 := ⟨_, rfl⟩
      have hf := hf.trans (g_let_eq hz3)
      have hok := g_let_p hz3 hok
      have hmz3 : gMi l yX3_takesPart wsX3_takesPart rm_r_takesPart G shM q z.2.1 h [.ref (q 0)] z3.2 h z3.1 := by rw [hz3]; exact c_r_takesPart l G q z.2.1 h s2
      refine x_callVi (n := 0) C hq gFr_same (hmz3) (cwV 0 C.2.2.2.2.2.1 gX3_isText_X3_takesPart rfl rfl rfl (by decide +kernel) ⟨Nat.le_of_ble_eq_true rfl, Nat.le_of_ble_eq_true rfl⟩) rfl rfl rfl rfl (Nat.le_of_ble_eq_true rfl) dX3_isText_22 (Nat.zero_le _) (Nat.zero_le _) ?_
      refine x_if_ne (tgt := 30) C dX3_isText_25 (by decide) (fun c4 => ?_) (fun c4 => ?_)
      · have hf := hf.trans (if_neg c4)
        have hok := g_in c4 hok
        refine x_aload_n C dX3_isText_30 rfl 0 rfl ?_
        refine x_dup C dX3_isText_31 rfl ?_
        refine x_get (v := .int (z3.2 0 10)) C in_X3_isText_3 0 rfl rfl 10 (by decide) k_X3_isText_115 rfl rfl dX3_isText_32 ?_
        refine x_iconst (v := (1 : Int32)) C dX3_isText_35 (by decide) ?_
        refine x_iadd C dX3_isText_36 ?_
        obtain ⟨z5, hz5⟩ : ∃ y9 : gM, y9 = g_set z3.2 0 (upd (z3.2 0) 10 ((z3.2 0 10) + (1 : Int32))) := ⟨_, rfl⟩
        have hf := hf.trans (g_let_eq hz5)
        have hok := g_let_p hz5 hok
        refine x_puti (μ' := z5) (ty := .int) C hq tyX3 tyX3_ok nmX3 in_X3_isText_3 0 rfl rfl 10 (by decide) k_X3_isText_115 rfl (tyX3_ok 10 (by decide)) rfl rfl rfl hz5 dX3_isText_37 ?_
        refine x_aload_n C dX3_isText_40 rfl 0 rfl ?_
        refine x_bipush (v := (59 : Int32)) C dX3_isText_41 (by decide) ?_
        have s6 := And.left hok
        have hok := And.right hok
        obtain ⟨z7, hz7⟩ : ∃ y9 : Int32 × gM, y9 = f_r_takes z5 (59 : Int32) := ⟨_, rfl⟩
        have hf := hf.trans (g_let_eq hz7)
        have hok := g_let_p hz7 hok
        have hmz7 : gMi l yX3_takes wsX3_takes rm_r_takes G shM q z5 h [.ref (q 0), .int (59 : Int32)] z7.2 h z7.1 := by rw [hz7]; exact c_r_takes l G q z5 h (59 : Int32) s6
        refine x_callVi (n := 1) C hq gFr_same (hmz7) (cwV 1 C.2.2.2.2.2.1 gX3_isText_X3_takes rfl rfl rfl (by decide +kernel) ⟨Nat.le_of_ble_eq_true rfl, Nat.le_of_ble_eq_true rfl⟩) rfl rfl rfl rfl (Nat.le_of_ble_eq_true rfl) dX3_isText_43 (Nat.zero_le _) (Nat.zero_le _) ?_
        refine x_istore_n (lv' := [(0, .ref (q 0)), (1, .int z7.1)]) C dX3_isText_46 rfl (by decide) [1, 0] rfl ?_
        refine x_goto (tgt := 17) C dX3_isText_47 (by decide) ?_
        exact ih ((z7.1, z7.2, 0)) (rOk_t hnx hf) (fun z' hz => K0 z' ((run_t hf).trans hz)) (fun z' hz => K1 z' ((run_t hf).trans hz))
      · have hf := hf.trans (if_pos c4)
        have hok := g_ip c4 hok
        exact K1 ((z.1, z3.2, 1)) (run_f hf) rfl
noncomputable def f_r_isText (m : gM) : Int32 × gM := g_let (g_set m 0 (upd (m 0) 7 (0 : Int32))) (fun z1 : gM => g_let (g_set z1 0 (upd (z1 0) 10 (0 : Int32))) (fun z2 : gM => g_let (g_set z2 0 (upd (z2 0) 8 (0 : Int32))) (fun z3 : gM => g_let (run (L_r_isText_17) 400 (((1 : Int32), z3, 0))) (fun z5 : Int32 × gM × Nat => (if z5.2.2 = (0 : Nat) then (if (z5.2.1 0 5) ≤ (z5.2.1 0 7) then g_let (g_set z5.2.1 0 (upd (z5.2.1 0) 8 (0 : Int32))) (fun z7 : gM => (if (z7 0 7) = (z7 0 5) then ((1 : Int32), z7) else ((0 : Int32), z7))) else g_let (g_set z5.2.1 0 (upd (z5.2.1 0) 8 (1 : Int32))) (fun z9 : gM => (if (z9 0 7) = (z9 0 5) then ((1 : Int32), z9) else ((0 : Int32), z9)))) else ((0 : Int32), z5.2.1))))))
noncomputable def o_r_isText (m : gM) : Prop := g_let (g_set m 0 (upd (m 0) 7 (0 : Int32))) (fun z1 : gM => g_let (g_set z1 0 (upd (z1 0) 10 (0 : Int32))) (fun z2 : gM => g_let (g_set z2 0 (upd (z2 0) 8 (0 : Int32))) (fun z3 : gM => (rOk (L_r_isText_17) (K_r_isText_17) 400 (((1 : Int32), z3, 0))) ∧ (g_let (run (L_r_isText_17) 400 (((1 : Int32), z3, 0))) (fun z5 : Int32 × gM × Nat => (if z5.2.2 = (0 : Nat) then (if (z5.2.1 0 5) ≤ (z5.2.1 0 7) then g_let (g_set z5.2.1 0 (upd (z5.2.1 0) 8 (0 : Int32))) (fun z7 : gM => (if (z7 0 7) = (z7 0 5) then True else True)) else g_let (g_set z5.2.1 0 (upd (z5.2.1 0) 8 (1 : Int32))) (fun z9 : gM => (if (z9 0 7) = (z9 0 5) then True else True))) else True))))))
set_option maxRecDepth 100000 in
set_option maxHeartbeats 4000000 in
theorem c_r_isText (l : Launch) (G : gG) (q : Nat → Nat) (m : gM) (h : gN) (hok : o_r_isText m) : gMi l yX3_isText wsX3_isText rm_r_isText G shM q m h [.ref (q 0)] ((f_r_isText m).2) h ((f_r_isText m).1) := by
  intro sz
  refine g_met (cc := cX3_isText) (maxL := 2) (ret := (some .boolean)) (own := RX3) (Qc := fun sz => gQi G shM q ((f_r_isText m).2) h sz ((f_r_isText m).1)) (by decide) rfl rfl (Nat.le_of_ble_eq_true rfl) (fun p e s m9 below meth c C hq hr => ?_)
  refine x_lv (lv' := [(0, .ref (q 0))]) [0] rfl ?_
  have hf := f_r_isText.eq_1 m
  have hok := Eq.mp (o_r_isText.eq_1 m) hok
  refine x_aload_n C dX3_isText_0 rfl 0 rfl ?_
  refine x_iconst (v := (0 : Int32)) C dX3_isText_1 (by decide) ?_
  obtain ⟨z1, hz1⟩ : ∃ y9 : gM, y9 = g_set m 0 (upd (m 0) 7 (0 : Int32)) := ⟨_, rfl⟩
  have hf := hf.trans (g_let_eq hz1)
  have hok := g_let_p hz1 hok
  refine x_puti (μ' := z1) (ty := .int) C hq tyX3 tyX3_ok nmX3 in_X3_isText_3 0 rfl rfl 7 (by decide) k_X3_isText_101 rfl (tyX3_ok 7 (by decide)) rfl rfl rfl hz1 dX3_isText_2 ?_
  refine x_aload_n C dX3_isText_5 rfl 0 rfl ?_
  refine x_iconst (v := (0 : Int32)) C dX3_isText_6 (by decide) ?_
  obtain ⟨z2, hz2⟩ : ∃ y9 : gM, y9 = g_set z1 0 (upd (z1 0) 10 (0 : Int32)) := ⟨_, rfl⟩
  have hf := hf.trans (g_let_eq hz2)
  have hok := g_let_p hz2 hok
  refine x_puti (μ' := z2) (ty := .int) C hq tyX3 tyX3_ok nmX3 in_X3_isText_3 0 rfl rfl 10 (by decide) k_X3_isText_115 rfl (tyX3_ok 10 (by decide)) rfl rfl rfl hz2 dX3_isText_7 ?_
  refine x_aload_n C dX3_isText_10 rfl 0 rfl ?_
  refine x_iconst (v := (0 : Int32)) C dX3_isText_11 (by decide) ?_
  obtain ⟨z3, hz3⟩ : ∃ y9 : gM, y9 = g_set z2 0 (upd (z2 0) 8 (0 : Int32)) := ⟨_, rfl⟩
  have hf := hf.trans (g_let_eq hz3)
  have hok := g_let_p hz3 hok
  refine x_puti (μ' := z3) (ty := .boolean) C hq tyX3 tyX3_ok nmX3 in_X3_isText_3 0 rfl rfl 8 (by decide) k_X3_isText_104 rfl (tyX3_ok 8 (by decide)) (g_nz (Or.inl rfl)) (g_fz (Or.inl rfl)) rfl hz3 dX3_isText_12 ?_
  refine x_iconst (v := (1 : Int32)) C dX3_isText_15 (by decide) ?_
  refine x_istore_n (lv' := [(0, .ref (q 0)), (1, .int (1 : Int32))]) C dX3_isText_16 rfl (by decide) [1, 0] rfl ?_
  have s4 := And.left hok
  have hok := And.right hok
  refine lp_r_isText_17 C hq h 400 (((1 : Int32), z3, 0)) s4 (fun z5 hz5 hc => ?_) (fun z5 hz5 hc => ?_)
  · have hf := hf.trans (g_let_eq hz5.symm)
    have hok := g_let_p hz5.symm hok
    have hf := hf.trans (if_pos hc)
    have hok := g_ip hc hok
    refine x_aload_n C dX3_isText_50 rfl 0 rfl ?_
    refine x_aload_n C dX3_isText_51 rfl 0 rfl ?_
    refine x_get (v := .int (z5.2.1 0 7)) C in_X3_isText_3 0 rfl rfl 7 (by decide) k_X3_isText_101 rfl rfl dX3_isText_52 ?_
    refine x_aload_n C dX3_isText_55 rfl 0 rfl ?_
    refine x_get (v := .int (z5.2.1 0 5)) C in_X3_isText_3 0 rfl rfl 5 (by decide) k_X3_isText_98 rfl rfl dX3_isText_56 ?_
    refine x_icmp_ge (tgt := 66) C dX3_isText_59 (by decide) (fun c6 => ?_) (fun c6 => ?_)
    · have hf := hf.trans (if_pos c6)
      have hok := g_ip c6 hok
      refine x_iconst (v := (0 : Int32)) C dX3_isText_66 (by decide) ?_
      obtain ⟨z7, hz7⟩ : ∃ y9 : gM, y9 = g_set z5.2.1 0 (upd (z5.2.1 0) 8 (0 : Int32)) := ⟨_, rfl⟩
      have hf := hf.trans (g_let_eq hz7)
      have hok := g_let_p hz7 hok
      refine x_puti (μ' := z7) (ty := .boolean) C hq tyX3 tyX3_ok nmX3 in_X3_isText_3 0 rfl rfl 8 (by decide) k_X3_isText_104 rfl (tyX3_ok 8 (by decide)) (g_nz (Or.inl rfl)) (g_fz (Or.inl rfl)) rfl hz7 dX3_isText_67 ?_
      refine x_aload_n C dX3_isText_70 rfl 0 rfl ?_
      refine x_get (v := .int (z7 0 7)) C in_X3_isText_3 0 rfl rfl 7 (by decide) k_X3_isText_101 rfl rfl dX3_isText_71 ?_
      refine x_aload_n C dX3_isText_74 rfl 0 rfl ?_
      refine x_get (v := .int (z7 0 5)) C in_X3_isText_3 0 rfl rfl 5 (by decide) k_X3_isText_98 rfl rfl dX3_isText_75 ?_
      refine x_icmp_ne (tgt := 85) C dX3_isText_78 (by decide) (fun c8 => ?_) (fun c8 => ?_)
      · have hf := hf.trans (if_neg c8)
        have hok := g_in c8 hok
        refine x_iconst (v := (0 : Int32)) C dX3_isText_85 (by decide) ?_
        exact g_iret C hr (g_nz (Or.inl rfl)) dX3_isText_86 (congrArg (fun z => z.1) hf).symm (congrArg (fun z => z.2) hf).symm rfl
      · have hf := hf.trans (if_pos c8)
        have hok := g_ip c8 hok
        refine x_iconst (v := (1 : Int32)) C dX3_isText_81 (by decide) ?_
        refine x_goto (tgt := 86) C dX3_isText_82 (by decide) ?_
        exact g_iret C hr (g_nz (Or.inr rfl)) dX3_isText_86 (congrArg (fun z => z.1) hf).symm (congrArg (fun z => z.2) hf).symm rfl
    · have hf := hf.trans (if_neg c6)
      have hok := g_in c6 hok
      refine x_iconst (v := (1 : Int32)) C dX3_isText_62 (by decide) ?_
      refine x_goto (tgt := 67) C dX3_isText_63 (by decide) ?_
      obtain ⟨z9, hz9⟩ : ∃ y9 : gM, y9 = g_set z5.2.1 0 (upd (z5.2.1 0) 8 (1 : Int32)) := ⟨_, rfl⟩
      have hf := hf.trans (g_let_eq hz9)
      have hok := g_let_p hz9 hok
      refine x_puti (μ' := z9) (ty := .boolean) C hq tyX3 tyX3_ok nmX3 in_X3_isText_3 0 rfl rfl 8 (by decide) k_X3_isText_104 rfl (tyX3_ok 8 (by decide)) (g_nz (Or.inr rfl)) (g_fz (Or.inr rfl)) rfl hz9 dX3_isText_67 ?_
      refine x_aload_n C dX3_isText_70 rfl 0 rfl ?_
      refine x_get (v := .int (z9 0 7)) C in_X3_isText_3 0 rfl rfl 7 (by decide) k_X3_isText_101 rfl rfl dX3_isText_71 ?_
      refine x_aload_n C dX3_isText_74 rfl 0 rfl ?_
      refine x_get (v := .int (z9 0 5)) C in_X3_isText_3 0 rfl rfl 5 (by decide) k_X3_isText_98 rfl rfl dX3_isText_75 ?_
      refine x_icmp_ne (tgt := 85) C dX3_isText_78 (by decide) (fun c10 => ?_) (fun c10 => ?_)
      · have hf := hf.trans (if_neg c10)
        have hok := g_in c10 hok
        refine x_iconst (v := (0 : Int32)) C dX3_isText_85 (by decide) ?_
        exact g_iret C hr (g_nz (Or.inl rfl)) dX3_isText_86 (congrArg (fun z => z.1) hf).symm (congrArg (fun z => z.2) hf).symm rfl
      · have hf := hf.trans (if_pos c10)
        have hok := g_ip c10 hok
        refine x_iconst (v := (1 : Int32)) C dX3_isText_81 (by decide) ?_
        refine x_goto (tgt := 86) C dX3_isText_82 (by decide) ?_
        exact g_iret C hr (g_nz (Or.inr rfl)) dX3_isText_86 (congrArg (fun z => z.1) hf).symm (congrArg (fun z => z.2) hf).symm rfl
  · have hf := hf.trans (g_let_eq hz5.symm)
    have hok := g_let_p hz5.symm hok
    have hf := hf.trans (if_neg (show ¬ z5.2.2 = (0 : Nat) from by rw [hc]; decide))
    have hok := g_in (show ¬ z5.2.2 = (0 : Nat) from by rw [hc]; decide) hok
    refine x_iconst (v := (0 : Int32)) C dX3_isText_28 (by decide) ?_
    exact g_iret C hr (g_nz (Or.inl rfl)) dX3_isText_29 (congrArg (fun z => z.1) hf).symm (congrArg (fun z => z.2) hf).symm rfl
set_option maxRecDepth 20000 in
theorem in_X3_firstError_3 : ∀ w ∈ u_ws RX3 TX3 12, w ∈ wsX3_firstError := by decide +kernel
set_option maxRecDepth 20000 in
theorem k_X3_firstError_101 : Cond.fieldLink RX3 101 "HintedPagesModel" "at" "I" ∈ wsX3_firstError := by decide +kernel
set_option maxRecDepth 20000 in
theorem k_X3_firstError_104 : Cond.fieldLink RX3 104 "HintedPagesModel" "isFault" "Z" ∈ wsX3_firstError := by decide +kernel
set_option maxRecDepth 20000 in
theorem k_X3_firstError_25 : Cond.fieldLink RX3 25 "HintedPagesModel" "thrown" "I" ∈ wsX3_firstError := by decide +kernel
set_option maxRecDepth 20000 in
theorem k_X3_firstError_98 : Cond.fieldLink RX3 98 "HintedPagesModel" "typed" "I" ∈ wsX3_firstError := by decide +kernel
abbrev rm_r_firstError : Room := { frames := 5, cells := 0, slots := 0, locals := 110 }
noncomputable def f_r_firstError (m : gM) : Int32 × gM := g_let (g_set m 0 (upd (m 0) 6 (0 : Int32))) (fun z1 : gM => g_let (f_r_isText z1) (fun z3 : Int32 × gM => (if z3.1 = 0 then (if (z3.2 0 8) = 0 then ((z3.2 0 5), z3.2) else ((z3.2 0 7), z3.2)) else ((z3.2 0 5), z3.2))))
noncomputable def o_r_firstError (m : gM) : Prop := g_let (g_set m 0 (upd (m 0) 6 (0 : Int32))) (fun z1 : gM => (o_r_isText z1) ∧ (g_let (f_r_isText z1) (fun z3 : Int32 × gM => (if z3.1 = 0 then (if (z3.2 0 8) = 0 then True else True) else True))))
set_option maxRecDepth 100000 in
set_option maxHeartbeats 4000000 in
theorem c_r_firstError (l : Launch) (G : gG) (q : Nat → Nat) (m : gM) (h : gN) (hok : o_r_firstError m) : gMi l yX3_firstError wsX3_firstError rm_r_firstError G shM q m h [.ref (q 0)] ((f_r_firstError m).2) h ((f_r_firstError m).1) := by
  intro sz
  refine g_met (cc := cX3_firstError) (maxL := 2) (ret := (some .int)) (own := RX3) (Qc := fun sz => gQi G shM q ((f_r_firstError m).2) h sz ((f_r_firstError m).1)) (by decide) rfl rfl (Nat.le_of_ble_eq_true rfl) (fun p e s m9 below meth c C hq hr => ?_)
  refine x_lv (lv' := [(0, .ref (q 0))]) [0] rfl ?_
  have hf := f_r_firstError.eq_1 m
  have hok := Eq.mp (o_r_firstError.eq_1 m) hok
  refine x_aload_n C dX3_firstError_0 rfl 0 rfl ?_
  refine x_iconst (v := (0 : Int32)) C dX3_firstError_1 (by decide) ?_
  obtain ⟨z1, hz1⟩ : ∃ y9 : gM, y9 = g_set m 0 (upd (m 0) 6 (0 : Int32)) := ⟨_, rfl⟩
  have hf := hf.trans (g_let_eq hz1)
  have hok := g_let_p hz1 hok
  refine x_puti (μ' := z1) (ty := .int) C hq tyX3 tyX3_ok nmX3 in_X3_firstError_3 0 rfl rfl 6 (by decide) k_X3_firstError_25 rfl (tyX3_ok 6 (by decide)) rfl rfl rfl hz1 dX3_firstError_2 ?_
  refine x_aload_n C dX3_firstError_5 rfl 0 rfl ?_
  have s2 := And.left hok
  have hok := And.right hok
  obtain ⟨z3, hz3⟩ : ∃ y9 : Int32 × gM, y9 = f_r_isText z1 := ⟨_, rfl⟩
  have hf := hf.trans (g_let_eq hz3)
  have hok := g_let_p hz3 hok
  have hmz3 : gMi l yX3_isText wsX3_isText rm_r_isText G shM q z1 h [.ref (q 0)] z3.2 h z3.1 := by rw [hz3]; exact c_r_isText l G q z1 h s2
  refine x_callVi (n := 0) C hq gFr_same (hmz3) (cwV 0 C.2.2.2.2.2.1 gX3_firstError_X3_isText rfl rfl rfl (by decide +kernel) ⟨Nat.le_of_ble_eq_true rfl, Nat.le_of_ble_eq_true rfl⟩) rfl rfl rfl rfl (Nat.le_of_ble_eq_true rfl) dX3_firstError_6 (Nat.zero_le _) (Nat.zero_le _) ?_
  refine x_istore_n (lv' := [(0, .ref (q 0)), (1, .int z3.1)]) C dX3_firstError_9 rfl (by decide) [1, 0] rfl ?_
  refine x_iload_n C dX3_firstError_10 rfl 1 rfl ?_
  refine x_if_ne (tgt := 28) C dX3_firstError_11 (by decide) (fun c4 => ?_) (fun c4 => ?_)
  · have hf := hf.trans (if_neg c4)
    have hok := g_in c4 hok
    refine x_aload_n C dX3_firstError_28 rfl 0 rfl ?_
    refine x_get (v := .int (z3.2 0 5)) C in_X3_firstError_3 0 rfl rfl 5 (by decide) k_X3_firstError_98 rfl rfl dX3_firstError_29 ?_
    exact g_iret C hr rfl dX3_firstError_32 (congrArg (fun z => z.1) hf).symm (congrArg (fun z => z.2) hf).symm rfl
  · have hf := hf.trans (if_pos c4)
    have hok := g_ip c4 hok
    refine x_aload_n C dX3_firstError_14 rfl 0 rfl ?_
    refine x_get (v := .int (z3.2 0 8)) C in_X3_firstError_3 0 rfl rfl 8 (by decide) k_X3_firstError_104 rfl rfl dX3_firstError_15 ?_
    refine x_if_eq (tgt := 28) C dX3_firstError_18 (by decide) (fun c5 => ?_) (fun c5 => ?_)
    · have hf := hf.trans (if_pos c5)
      have hok := g_ip c5 hok
      refine x_aload_n C dX3_firstError_28 rfl 0 rfl ?_
      refine x_get (v := .int (z3.2 0 5)) C in_X3_firstError_3 0 rfl rfl 5 (by decide) k_X3_firstError_98 rfl rfl dX3_firstError_29 ?_
      exact g_iret C hr rfl dX3_firstError_32 (congrArg (fun z => z.1) hf).symm (congrArg (fun z => z.2) hf).symm rfl
    · have hf := hf.trans (if_neg c5)
      have hok := g_in c5 hok
      refine x_aload_n C dX3_firstError_21 rfl 0 rfl ?_
      refine x_get (v := .int (z3.2 0 7)) C in_X3_firstError_3 0 rfl rfl 7 (by decide) k_X3_firstError_101 rfl rfl dX3_firstError_22 ?_
      refine x_goto (tgt := 32) C dX3_firstError_25 (by decide) ?_
      exact g_iret C hr rfl dX3_firstError_32 (congrArg (fun z => z.1) hf).symm (congrArg (fun z => z.2) hf).symm rfl
set_option maxRecDepth 20000 in
theorem in_X3_writeAll_3 : ∀ w ∈ u_ws RX3 TX3 12, w ∈ wsX3_writeAll := by decide +kernel
set_option maxRecDepth 20000 in
theorem k_X3_writeAll_115 : Cond.fieldLink RX3 115 "HintedPagesModel" "tolds" "I" ∈ wsX3_writeAll := by decide +kernel
set_option maxRecDepth 20000 in
theorem k_X3_writeAll_22 : Cond.fieldLink RX3 22 "HintedPagesModel" "told" "[I" ∈ wsX3_writeAll := by decide +kernel
set_option maxRecDepth 20000 in
theorem k_X3_writeAll_25 : Cond.fieldLink RX3 25 "HintedPagesModel" "thrown" "I" ∈ wsX3_writeAll := by decide +kernel
set_option maxRecDepth 20000 in
theorem k_X3_writeAll_7 : Cond.fieldLink RX3 7 "HintedPagesModel" "now" "[I" ∈ wsX3_writeAll := by decide +kernel
set_option maxRecDepth 20000 in
theorem k_X3_writeAll_98 : Cond.fieldLink RX3 98 "HintedPagesModel" "typed" "I" ∈ wsX3_writeAll := by decide +kernel
abbrev rm_r_writeAll : Room := { frames := 6, cells := 0, slots := 0, locals := 138 }
noncomputable def L_r_writeAll_55 (x1 : Int32) (x2 : Int32) (z : Int32 × gM) : Bool × (Int32 × gM) := (if (z.2 5 (((3 : Int32) * x2) + (1 : Int32)).toNatClampNeg) < z.1 then (false, (z.1, z.2)) else g_let (f_r_writes (g_sel [1] z.2) z.1 (z.2 5 (((3 : Int32) * x2) + (2 : Int32)).toNatClampNeg)) (fun z5 : Int32 × gM => g_let (g_mrg [1] z.2 z5.2) (fun z6 : gM => g_let ((z.1 + (1 : Int32))) (fun z7 : Int32 => (true, (z7, z6))))))
noncomputable def K_r_writeAll_55 (x1 : Int32) (x2 : Int32) (z : Int32 × gM) : Prop := (vp_in (((3 : Int32) * x2) + (1 : Int32)) 96) ∧ ((if (z.2 5 (((3 : Int32) * x2) + (1 : Int32)).toNatClampNeg) < z.1 then True else (vp_in (((3 : Int32) * x2) + (2 : Int32)) 96) ∧ ((o_r_writes (g_sel [1] z.2) z.1 (z.2 5 (((3 : Int32) * x2) + (2 : Int32)).toNatClampNeg)) ∧ (g_let (f_r_writes (g_sel [1] z.2) z.1 (z.2 5 (((3 : Int32) * x2) + (2 : Int32)).toNatClampNeg)) (fun z5 : Int32 × gM => g_let (g_mrg [1] z.2 z5.2) (fun z6 : gM => g_let ((z.1 + (1 : Int32))) (fun z7 : Int32 => True)))))))
set_option maxRecDepth 100000 in
set_option maxHeartbeats 4000000 in
theorem lp_r_writeAll_55 {p : Program} {l : Launch} {e : Env} {s : State} {m9 : MethodId} {args : Array Value} {below : List Frame} {meth : Method} {c : Code} {G : gG} {A : Nat → Prop} {Q : State → Prop} {q : Nat → Nat} (C : xC p s m9 args meth c G A 5 cX3_writeAll RX3 wsX3_writeAll) (hq : gD A q shM.length) (h : gN) (x1 : Int32) (x2 : Int32) : ∀ (n : Nat) (z : Int32 × gM), rOk (L_r_writeAll_55 x1 x2) (K_r_writeAll_55 x1 x2) n z → (∀ z' : Int32 × gM, run (L_r_writeAll_55 x1 x2) n z = z' → xJ p l e rm_r_writeAll s m9 args below meth c G A 5 Q 0 0 shM q z'.2 h [(0, .ref (q 0)), (1, .int x1), (2, .int x2), (3, .int z'.1)] [] 95) → xJ p l e rm_r_writeAll s m9 args below meth c G A 5 Q 0 0 shM q z.2 h [(0, .ref (q 0)), (1, .int x1), (2, .int x2), (3, .int z.1)] [] 55 := by
  intro n
  induction n with
  | zero =>
    intro z hok _
    exact rOk_0 hok
  | succ n ih =>
    intro z hok K0
    have hnx := rOk_2 hok
    have hok := rOk_1 hok
    have hf := L_r_writeAll_55.eq_1 x1 x2 z
    have hok := Eq.mp (K_r_writeAll_55.eq_1 x1 x2 z) hok
    refine x_iload_n C dX3_writeAll_55 rfl 3 rfl ?_
    refine x_aload_n C dX3_writeAll_56 rfl 0 rfl ?_
    refine x_get (v := .ref (q 5)) C in_X3_writeAll_3 0 rfl rfl 9 (by decide) k_X3_writeAll_22 rfl rfl dX3_writeAll_57 ?_
    refine x_iconst (v := (3 : Int32)) C dX3_writeAll_60 (by decide) ?_
    refine x_iload_n C dX3_writeAll_61 rfl 2 rfl ?_
    refine x_imul C dX3_writeAll_62 ?_
    refine x_iconst (v := (1 : Int32)) C dX3_writeAll_63 (by decide) ?_
    refine x_iadd C dX3_writeAll_64 ?_
    have s1 := And.left hok
    have hok := And.right hok
    refine x_iald (n := 96) (v := (z.2 5 (((3 : Int32) * x2) + (1 : Int32)).toNatClampNeg)) C 5 rfl s1 rfl dX3_writeAll_65 ?_
    refine x_icmp_gt (tgt := 95) C dX3_writeAll_66 (by decide) (fun c2 => ?_) (fun c2 => ?_)
    · have hf := hf.trans (if_pos c2)
      have hok := g_ip c2 hok
      exact K0 ((z.1, z.2)) (run_f hf)
    · have hf := hf.trans (if_neg c2)
      have hok := g_in c2 hok
      refine x_aload_n C dX3_writeAll_69 rfl 0 rfl ?_
      refine x_get (v := .ref (q 1)) C in_X3_writeAll_3 0 rfl rfl 0 (by decide) k_X3_writeAll_7 rfl rfl dX3_writeAll_70 ?_
      refine x_iload_n C dX3_writeAll_73 rfl 3 rfl ?_
      refine x_aload_n C dX3_writeAll_74 rfl 0 rfl ?_
      refine x_get (v := .ref (q 5)) C in_X3_writeAll_3 0 rfl rfl 9 (by decide) k_X3_writeAll_22 rfl rfl dX3_writeAll_75 ?_
      refine x_iconst (v := (3 : Int32)) C dX3_writeAll_78 (by decide) ?_
      refine x_iload_n C dX3_writeAll_79 rfl 2 rfl ?_
      refine x_imul C dX3_writeAll_80 ?_
      refine x_iconst (v := (2 : Int32)) C dX3_writeAll_81 (by decide) ?_
      refine x_iadd C dX3_writeAll_82 ?_
      have s3 := And.left hok
      have hok := And.right hok
      refine x_iald (n := 96) (v := (z.2 5 (((3 : Int32) * x2) + (2 : Int32)).toNatClampNeg)) C 5 rfl s3 rfl dX3_writeAll_83 ?_
      have s4 := And.left hok
      have hok := And.right hok
      obtain ⟨z5, hz5⟩ : ∃ y9 : Int32 × gM, y9 = f_r_writes (g_sel [1] z.2) z.1 (z.2 5 (((3 : Int32) * x2) + (2 : Int32)).toNatClampNeg) := ⟨_, rfl⟩
      have hf := hf.trans (g_let_eq hz5)
      have hok := g_let_p hz5 hok
      have hmz5 : gMi l yX3_writes wsX3_writes rm_r_writes G shr (g_sel [1] q) (g_sel [1] z.2) (g_sel [1] h) [.ref ((g_sel [1] q) 0), .int z.1, .int (z.2 5 (((3 : Int32) * x2) + (2 : Int32)).toNatClampNeg)] z5.2 (g_sel [1] h) z5.1 := by rw [hz5]; exact c_r_writes l G (g_sel [1] q) (g_sel [1] z.2) (g_sel [1] h) z.1 (z.2 5 (((3 : Int32) * x2) + (2 : Int32)).toNatClampNeg) s4
      refine x_callSi (n := 3) C hq (gFr_sub gs_M_r_1) (hmz5) (va_cwS 3 C.2.2.2.2.2.1 gX3_writeAll_X3_writes rfl rfl rfl (by decide +kernel) ⟨Nat.le_of_ble_eq_true rfl, Nat.le_of_ble_eq_true rfl⟩) rfl rfl (Nat.le_of_ble_eq_true rfl) dX3_writeAll_84 (Nat.zero_le _) (Nat.zero_le _) ?_
      obtain ⟨z6, hz6⟩ : ∃ y9 : gM, y9 = g_mrg [1] z.2 z5.2 := ⟨_, rfl⟩
      have hf := hf.trans (g_let_eq hz6)
      have hok := g_let_p hz6 hok
      refine x_mu hz6 (g_mrg_id gs_M_r_1.1) ?_
      refine x_istore (lv' := [(0, .ref (q 0)), (1, .int x1), (2, .int x2), (3, .int z.1), (4, .int z5.1)]) C dX3_writeAll_87 (by decide) [1, 2, 3, 4, 0] rfl ?_
      obtain ⟨z7, hz7⟩ : ∃ y9 : Int32, y9 = (z.1 + (1 : Int32)) := ⟨_, rfl⟩
      have hf := hf.trans (g_let_eq hz7)
      have hok := g_let_p hz7 hok
      refine x_iinc (v := z7) (lv' := [(0, .ref (q 0)), (1, .int x1), (2, .int x2), (3, .int z7), (4, .int z5.1)]) C dX3_writeAll_89 3 rfl hz7.symm (by decide) [1, 2, 3, 0, 4] rfl ?_
      refine x_goto (tgt := 55) C dX3_writeAll_92 (by decide) ?_
      refine x_lv (lv' := [(0, .ref (q 0)), (1, .int x1), (2, .int x2), (3, .int z7)]) [0, 1, 2, 3] rfl ?_
      exact ih ((z7, z6)) (rOk_t hnx hf) (fun z' hz => K0 z' ((run_t hf).trans hz))
noncomputable def L_r_writeAll_38 (x1 : Int32) (z : Int32 × gM) : Bool × (Int32 × gM) := (if (z.2 0 10) ≤ z.1 then (false, (z.1, z.2)) else g_let ((z.2 5 ((3 : Int32) * z.1).toNatClampNeg)) (fun z3 : Int32 => g_let (run (L_r_writeAll_55 x1 z.1) 400 ((z3, z.2))) (fun z5 : Int32 × gM => g_let ((z.1 + (1 : Int32))) (fun z6 : Int32 => (true, (z6, z5.2))))))
noncomputable def K_r_writeAll_38 (x1 : Int32) (z : Int32 × gM) : Prop := (if (z.2 0 10) ≤ z.1 then True else (vp_in ((3 : Int32) * z.1) 96) ∧ (g_let ((z.2 5 ((3 : Int32) * z.1).toNatClampNeg)) (fun z3 : Int32 => (rOk (L_r_writeAll_55 x1 z.1) (K_r_writeAll_55 x1 z.1) 400 ((z3, z.2))) ∧ (g_let (run (L_r_writeAll_55 x1 z.1) 400 ((z3, z.2))) (fun z5 : Int32 × gM => g_let ((z.1 + (1 : Int32))) (fun z6 : Int32 => True))))))
set_option maxRecDepth 100000 in
set_option maxHeartbeats 4000000 in
theorem lp_r_writeAll_38 {p : Program} {l : Launch} {e : Env} {s : State} {m9 : MethodId} {args : Array Value} {below : List Frame} {meth : Method} {c : Code} {G : gG} {A : Nat → Prop} {Q : State → Prop} {q : Nat → Nat} (C : xC p s m9 args meth c G A 5 cX3_writeAll RX3 wsX3_writeAll) (hq : gD A q shM.length) (h : gN) (x1 : Int32) : ∀ (n : Nat) (z : Int32 × gM), rOk (L_r_writeAll_38 x1) (K_r_writeAll_38 x1) n z → (∀ z' : Int32 × gM, run (L_r_writeAll_38 x1) n z = z' → xJ p l e rm_r_writeAll s m9 args below meth c G A 5 Q 0 0 shM q z'.2 h [(0, .ref (q 0)), (1, .int x1), (2, .int z'.1)] [] 101) → xJ p l e rm_r_writeAll s m9 args below meth c G A 5 Q 0 0 shM q z.2 h [(0, .ref (q 0)), (1, .int x1), (2, .int z.1)] [] 38 := by
  intro n
  induction n with
  | zero =>
    intro z hok _
    exact rOk_0 hok
  | succ n ih =>
    intro z hok K0
    have hnx := rOk_2 hok
    have hok := rOk_1 hok
    have hf := L_r_writeAll_38.eq_1 x1 z
    have hok := Eq.mp (K_r_writeAll_38.eq_1 x1 z) hok
    refine x_iload_n C dX3_writeAll_38 rfl 2 rfl ?_
    refine x_aload_n C dX3_writeAll_39 rfl 0 rfl ?_
    refine x_get (v := .int (z.2 0 10)) C in_X3_writeAll_3 0 rfl rfl 10 (by decide) k_X3_writeAll_115 rfl rfl dX3_writeAll_40 ?_
    refine x_icmp_ge (tgt := 101) C dX3_writeAll_43 (by decide) (fun c1 => ?_) (fun c1 => ?_)
    · have hf := hf.trans (if_pos c1)
      have hok := g_ip c1 hok
      exact K0 ((z.1, z.2)) (run_f hf)
    · have hf := hf.trans (if_neg c1)
      have hok := g_in c1 hok
      refine x_aload_n C dX3_writeAll_46 rfl 0 rfl ?_
      refine x_get (v := .ref (q 5)) C in_X3_writeAll_3 0 rfl rfl 9 (by decide) k_X3_writeAll_22 rfl rfl dX3_writeAll_47 ?_
      refine x_iconst (v := (3 : Int32)) C dX3_writeAll_50 (by decide) ?_
      refine x_iload_n C dX3_writeAll_51 rfl 2 rfl ?_
      refine x_imul C dX3_writeAll_52 ?_
      have s2 := And.left hok
      have hok := And.right hok
      refine x_iald (n := 96) (v := (z.2 5 ((3 : Int32) * z.1).toNatClampNeg)) C 5 rfl s2 rfl dX3_writeAll_53 ?_
      obtain ⟨z3, hz3⟩ : ∃ y9 : Int32, y9 = (z.2 5 ((3 : Int32) * z.1).toNatClampNeg) := ⟨_, rfl⟩
      have hf := hf.trans (g_let_eq hz3)
      have hok := g_let_p hz3 hok
      refine x_topi hz3 ?_
      refine x_istore_n (lv' := [(0, .ref (q 0)), (1, .int x1), (2, .int z.1), (3, .int z3)]) C dX3_writeAll_54 rfl (by decide) [1, 2, 3, 0] rfl ?_
      have s4 := And.left hok
      have hok := And.right hok
      refine lp_r_writeAll_55 C hq h x1 z.1 400 ((z3, z.2)) s4 (fun z5 hz5 => ?_)
      have hf := hf.trans (g_let_eq hz5.symm)
      have hok := g_let_p hz5.symm hok
      obtain ⟨z6, hz6⟩ : ∃ y9 : Int32, y9 = (z.1 + (1 : Int32)) := ⟨_, rfl⟩
      have hf := hf.trans (g_let_eq hz6)
      have hok := g_let_p hz6 hok
      refine x_iinc (v := z6) (lv' := [(0, .ref (q 0)), (1, .int x1), (2, .int z6), (3, .int z5.1)]) C dX3_writeAll_95 2 rfl hz6.symm (by decide) [1, 2, 0, 3] rfl ?_
      refine x_goto (tgt := 38) C dX3_writeAll_98 (by decide) ?_
      refine x_lv (lv' := [(0, .ref (q 0)), (1, .int x1), (2, .int z6)]) [0, 1, 2] rfl ?_
      exact ih ((z6, z5.2)) (rOk_t hnx hf) (fun z' hz => K0 z' ((run_t hf).trans hz))
noncomputable def f_r_writeAll (m : gM) : Int32 × gM := g_let (g_set m 0 (upd (m 0) 6 (0 : Int32))) (fun z1 : gM => g_let (f_r_isText z1) (fun z3 : Int32 × gM => (if z3.1 = 0 then g_let (f_r_fails z3.2 (1 : Int32)) (fun z12 : Int32 × gM => (z12.1, z12.2)) else g_let (f_r_saves z3.2) (fun z6 : gM => g_let (g_set z6 0 (upd (z6 0) 5 (0 : Int32))) (fun z7 : gM => g_let ((z7 1 (360 : Int32).toNatClampNeg)) (fun z8 : Int32 => g_let (run (L_r_writeAll_38 z8) 400 (((0 : Int32), z7))) (fun z10 : Int32 × gM => (((z10.2 1 (360 : Int32).toNatClampNeg) - z8), z10.2))))))))
noncomputable def o_r_writeAll (m : gM) : Prop := g_let (g_set m 0 (upd (m 0) 6 (0 : Int32))) (fun z1 : gM => (o_r_isText z1) ∧ (g_let (f_r_isText z1) (fun z3 : Int32 × gM => (if z3.1 = 0 then (o_r_fails z3.2 (1 : Int32)) ∧ (g_let (f_r_fails z3.2 (1 : Int32)) (fun z12 : Int32 × gM => True)) else (o_r_saves z3.2) ∧ (g_let (f_r_saves z3.2) (fun z6 : gM => g_let (g_set z6 0 (upd (z6 0) 5 (0 : Int32))) (fun z7 : gM => g_let ((z7 1 (360 : Int32).toNatClampNeg)) (fun z8 : Int32 => (rOk (L_r_writeAll_38 z8) (K_r_writeAll_38 z8) 400 (((0 : Int32), z7))) ∧ (g_let (run (L_r_writeAll_38 z8) 400 (((0 : Int32), z7))) (fun z10 : Int32 × gM => True))))))))))
set_option maxRecDepth 100000 in
set_option maxHeartbeats 4000000 in
theorem c_r_writeAll (l : Launch) (G : gG) (q : Nat → Nat) (m : gM) (h : gN) (hok : o_r_writeAll m) : gMi l yX3_writeAll wsX3_writeAll rm_r_writeAll G shM q m h [.ref (q 0)] ((f_r_writeAll m).2) h ((f_r_writeAll m).1) := by
  intro sz
  refine g_met (cc := cX3_writeAll) (maxL := 5) (ret := (some .int)) (own := RX3) (Qc := fun sz => gQi G shM q ((f_r_writeAll m).2) h sz ((f_r_writeAll m).1)) (by decide) rfl rfl (Nat.le_of_ble_eq_true rfl) (fun p e s m9 below meth c C hq hr => ?_)
  refine x_lv (lv' := [(0, .ref (q 0))]) [0] rfl ?_
  have hf := f_r_writeAll.eq_1 m
  have hok := Eq.mp (o_r_writeAll.eq_1 m) hok
  refine x_aload_n C dX3_writeAll_0 rfl 0 rfl ?_
  refine x_iconst (v := (0 : Int32)) C dX3_writeAll_1 (by decide) ?_
  obtain ⟨z1, hz1⟩ : ∃ y9 : gM, y9 = g_set m 0 (upd (m 0) 6 (0 : Int32)) := ⟨_, rfl⟩
  have hf := hf.trans (g_let_eq hz1)
  have hok := g_let_p hz1 hok
  refine x_puti (μ' := z1) (ty := .int) C hq tyX3 tyX3_ok nmX3 in_X3_writeAll_3 0 rfl rfl 6 (by decide) k_X3_writeAll_25 rfl (tyX3_ok 6 (by decide)) rfl rfl rfl hz1 dX3_writeAll_2 ?_
  refine x_aload_n C dX3_writeAll_5 rfl 0 rfl ?_
  have s2 := And.left hok
  have hok := And.right hok
  obtain ⟨z3, hz3⟩ : ∃ y9 : Int32 × gM, y9 = f_r_isText z1 := ⟨_, rfl⟩
  have hf := hf.trans (g_let_eq hz3)
  have hok := g_let_p hz3 hok
  have hmz3 : gMi l yX3_isText wsX3_isText rm_r_isText G shM q z1 h [.ref (q 0)] z3.2 h z3.1 := by rw [hz3]; exact c_r_isText l G q z1 h s2
  refine x_callVi (n := 0) C hq gFr_same (hmz3) (cwV 0 C.2.2.2.2.2.1 gX3_writeAll_X3_isText rfl rfl rfl (by decide +kernel) ⟨Nat.le_of_ble_eq_true rfl, Nat.le_of_ble_eq_true rfl⟩) rfl rfl rfl rfl (Nat.le_of_ble_eq_true rfl) dX3_writeAll_6 (Nat.zero_le _) (Nat.zero_le _) ?_
  refine x_if_ne (tgt := 18) C dX3_writeAll_9 (by decide) (fun c4 => ?_) (fun c4 => ?_)
  · have hf := hf.trans (if_neg c4)
    have hok := g_in c4 hok
    refine x_aload_n C dX3_writeAll_18 rfl 0 rfl ?_
    have s5 := And.left hok
    have hok := And.right hok
    obtain ⟨z6, hz6⟩ : ∃ y9 : gM, y9 = f_r_saves z3.2 := ⟨_, rfl⟩
    have hf := hf.trans (g_let_eq hz6)
    have hok := g_let_p hz6 hok
    have hmz6 : gMv l yX3_saves wsX3_saves rm_r_saves G shM q z3.2 h [.ref (q 0)] z6 h := by rw [hz6]; exact c_r_saves l G q z3.2 h s5
    refine x_callVv (n := 0) C hq gFr_same (hmz6) (cwV 0 C.2.2.2.2.2.1 gX3_writeAll_X3_saves rfl rfl rfl (by decide +kernel) ⟨Nat.le_of_ble_eq_true rfl, Nat.le_of_ble_eq_true rfl⟩) rfl rfl rfl rfl (Nat.le_of_ble_eq_true rfl) dX3_writeAll_19 (Nat.zero_le _) (Nat.zero_le _) ?_
    refine x_aload_n C dX3_writeAll_22 rfl 0 rfl ?_
    refine x_iconst (v := (0 : Int32)) C dX3_writeAll_23 (by decide) ?_
    obtain ⟨z7, hz7⟩ : ∃ y9 : gM, y9 = g_set z6 0 (upd (z6 0) 5 (0 : Int32)) := ⟨_, rfl⟩
    have hf := hf.trans (g_let_eq hz7)
    have hok := g_let_p hz7 hok
    refine x_puti (μ' := z7) (ty := .int) C hq tyX3 tyX3_ok nmX3 in_X3_writeAll_3 0 rfl rfl 5 (by decide) k_X3_writeAll_98 rfl (tyX3_ok 5 (by decide)) rfl rfl rfl hz7 dX3_writeAll_24 ?_
    refine x_aload_n C dX3_writeAll_27 rfl 0 rfl ?_
    refine x_get (v := .ref (q 1)) C in_X3_writeAll_3 0 rfl rfl 0 (by decide) k_X3_writeAll_7 rfl rfl dX3_writeAll_28 ?_
    refine x_sipush (v := (360 : Int32)) C dX3_writeAll_31 (by decide) ?_
    refine x_iald (n := 364) (v := (z7 1 (360 : Int32).toNatClampNeg)) C 1 rfl (by unfold vp_in; decide) rfl dX3_writeAll_34 ?_
    obtain ⟨z8, hz8⟩ : ∃ y9 : Int32, y9 = (z7 1 (360 : Int32).toNatClampNeg) := ⟨_, rfl⟩
    have hf := hf.trans (g_let_eq hz8)
    have hok := g_let_p hz8 hok
    refine x_topi hz8 ?_
    refine x_istore_n (lv' := [(0, .ref (q 0)), (1, .int z8)]) C dX3_writeAll_35 rfl (by decide) [1, 0] rfl ?_
    refine x_iconst (v := (0 : Int32)) C dX3_writeAll_36 (by decide) ?_
    refine x_istore_n (lv' := [(0, .ref (q 0)), (1, .int z8), (2, .int (0 : Int32))]) C dX3_writeAll_37 rfl (by decide) [1, 2, 0] rfl ?_
    have s9 := And.left hok
    have hok := And.right hok
    refine lp_r_writeAll_38 C hq h z8 400 (((0 : Int32), z7)) s9 (fun z10 hz10 => ?_)
    have hf := hf.trans (g_let_eq hz10.symm)
    have hok := g_let_p hz10.symm hok
    refine x_aload_n C dX3_writeAll_101 rfl 0 rfl ?_
    refine x_get (v := .ref (q 1)) C in_X3_writeAll_3 0 rfl rfl 0 (by decide) k_X3_writeAll_7 rfl rfl dX3_writeAll_102 ?_
    refine x_sipush (v := (360 : Int32)) C dX3_writeAll_105 (by decide) ?_
    refine x_iald (n := 364) (v := (z10.2 1 (360 : Int32).toNatClampNeg)) C 1 rfl (by unfold vp_in; decide) rfl dX3_writeAll_108 ?_
    refine x_iload_n C dX3_writeAll_109 rfl 1 rfl ?_
    refine x_isub C dX3_writeAll_110 ?_
    exact g_iret C hr rfl dX3_writeAll_111 (congrArg (fun z => z.1) hf).symm (congrArg (fun z => z.2) hf).symm rfl
  · have hf := hf.trans (if_pos c4)
    have hok := g_ip c4 hok
    refine x_aload_n C dX3_writeAll_12 rfl 0 rfl ?_
    refine x_iconst (v := (1 : Int32)) C dX3_writeAll_13 (by decide) ?_
    have s11 := And.left hok
    have hok := And.right hok
    obtain ⟨z12, hz12⟩ : ∃ y9 : Int32 × gM, y9 = f_r_fails z3.2 (1 : Int32) := ⟨_, rfl⟩
    have hf := hf.trans (g_let_eq hz12)
    have hok := g_let_p hz12 hok
    have hmz12 : gMi l yX3_fails wsX3_fails rm_r_fails G shM q z3.2 h [.ref (q 0), .int (1 : Int32)] z12.2 h z12.1 := by rw [hz12]; exact c_r_fails l G q z3.2 h (1 : Int32) s11
    refine x_callVi (n := 1) C hq gFr_same (hmz12) (cwV 1 C.2.2.2.2.2.1 gX3_writeAll_X3_fails rfl rfl rfl (by decide +kernel) ⟨Nat.le_of_ble_eq_true rfl, Nat.le_of_ble_eq_true rfl⟩) rfl rfl rfl rfl (Nat.le_of_ble_eq_true rfl) dX3_writeAll_14 (Nat.zero_le _) (Nat.zero_le _) ?_
    exact g_iret C hr rfl dX3_writeAll_17 (congrArg (fun z => z.1) hf).symm (congrArg (fun z => z.2) hf).symm rfl
