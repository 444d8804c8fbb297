def sh0 : List gC := []
set_option maxRecDepth 20000 in
theorem kc_J6_bitCount_0f7a4_265 : Cond.constant RJ6 265 (1431655765) ∈ wsJ6_bitCount_0f7a4 := by decide +kernel
set_option maxRecDepth 20000 in
theorem kc_J6_bitCount_0f7a4_266 : Cond.constant RJ6 266 (858993459) ∈ wsJ6_bitCount_0f7a4 := by decide +kernel
set_option maxRecDepth 20000 in
theorem kc_J6_bitCount_0f7a4_267 : Cond.constant RJ6 267 (252645135) ∈ wsJ6_bitCount_0f7a4 := by decide +kernel
abbrev rm_j_bitCount : Room := { frames := 0, cells := 0, slots := 0, locals := 0 }
noncomputable def f_j_bitCount (a1 : Int32) : Int32 := g_let ((a1 - ((((a1).toUInt32 >>> (((1 : Int32)).toUInt32 &&& Int32.toUInt32 31)).toInt32) &&& (1431655765 : Int32)))) (fun z1 : Int32 => g_let (((z1 &&& (858993459 : Int32)) + ((((z1).toUInt32 >>> (((2 : Int32)).toUInt32 &&& Int32.toUInt32 31)).toInt32) &&& (858993459 : Int32)))) (fun z2 : Int32 => g_let (((z2 + (((z2).toUInt32 >>> (((4 : Int32)).toUInt32 &&& Int32.toUInt32 31)).toInt32)) &&& (252645135 : Int32))) (fun z3 : Int32 => g_let ((z3 + (((z3).toUInt32 >>> (((8 : Int32)).toUInt32 &&& Int32.toUInt32 31)).toInt32))) (fun z4 : Int32 => g_let ((z4 + (((z4).toUInt32 >>> (((16 : Int32)).toUInt32 &&& Int32.toUInt32 31)).toInt32))) (fun z5 : Int32 => (z5 &&& (63 : Int32)))))))
noncomputable def o_j_bitCount (a1 : Int32) : Prop := g_let ((a1 - ((((a1).toUInt32 >>> (((1 : Int32)).toUInt32 &&& Int32.toUInt32 31)).toInt32) &&& (1431655765 : Int32)))) (fun z1 : Int32 => g_let (((z1 &&& (858993459 : Int32)) + ((((z1).toUInt32 >>> (((2 : Int32)).toUInt32 &&& Int32.toUInt32 31)).toInt32) &&& (858993459 : Int32)))) (fun z2 : Int32 => g_let (((z2 + (((z2).toUInt32 >>> (((4 : Int32)).toUInt32 &&& Int32.toUInt32 31)).toInt32)) &&& (252645135 : Int32))) (fun z3 : Int32 => g_let ((z3 + (((z3).toUInt32 >>> (((8 : Int32)).toUInt32 &&& Int32.toUInt32 31)).toInt32))) (fun z4 : Int32 => g_let ((z4 + (((z4).toUInt32 >>> (((16 : Int32)).toUInt32 &&& Int32.toUInt32 31)).toInt32))) (fun z5 : Int32 => True)))))
set_option maxRecDepth 100000 in
set_option maxHeartbeats 4000000 in
theorem c_j_bitCount (l : Launch) (G : gG) (q : Nat → Nat) (m : gM) (h : gN) (a1 : Int32) (hok : o_j_bitCount a1) : gMi l yJ6_bitCount_0f7a4 wsJ6_bitCount_0f7a4 rm_j_bitCount G sh0 q m h [.int a1] m h (f_j_bitCount a1) := by
  intro sz
  refine g_met (cc := cJ6_bitCount_0f7a4) (maxL := 1) (ret := (some .int)) (own := RJ6) (Qc := fun sz => gQi G sh0 q m h sz (f_j_bitCount a1)) (by decide) rfl rfl (Nat.le_of_ble_eq_true rfl) (fun p e s m9 below meth c C hq hr => ?_)
  refine x_lv (lv' := [(0, .int a1)]) [0] rfl ?_
  have hf := f_j_bitCount.eq_1 a1
  have hok := Eq.mp (o_j_bitCount.eq_1 a1) hok
  refine x_iload_n C dJ6_bitCount_0f7a4_0 rfl 0 rfl ?_
  refine x_iload_n C dJ6_bitCount_0f7a4_1 rfl 0 rfl ?_
  refine x_iconst (v := (1 : Int32)) C dJ6_bitCount_0f7a4_2 (by decide) ?_
  refine x_iushr C dJ6_bitCount_0f7a4_3 rfl ?_
  refine x_ldcw (v := (1431655765 : Int32)) C kc_J6_bitCount_0f7a4_265 dJ6_bitCount_0f7a4_4 ?_
  refine x_iand C dJ6_bitCount_0f7a4_7 ?_
  refine x_isub C dJ6_bitCount_0f7a4_8 ?_
  obtain ⟨z1, hz1⟩ : ∃ y9 : Int32, y9 = (a1 - ((((a1).toUInt32 >>> (((1 : Int32)).toUInt32 &&& Int32.toUInt32 31)).toInt32) &&& (1431655765 : Int32))) := ⟨_, rfl⟩
  have hf := hf.trans (g_let_eq hz1)
  have hok := g_let_p hz1 hok
  refine x_topi hz1 ?_
  refine x_istore_n (lv' := [(0, .int z1)]) C dJ6_bitCount_0f7a4_9 rfl (by decide) [0] rfl ?_
  refine x_iload_n C dJ6_bitCount_0f7a4_10 rfl 0 rfl ?_
  refine x_ldcw (v := (858993459 : Int32)) C kc_J6_bitCount_0f7a4_266 dJ6_bitCount_0f7a4_11 ?_
  refine x_iand C dJ6_bitCount_0f7a4_14 ?_
  refine x_iload_n C dJ6_bitCount_0f7a4_15 rfl 0 rfl ?_
  refine x_iconst (v := (2 : Int32)) C dJ6_bitCount_0f7a4_16 (by decide) ?_
  refine x_iushr C dJ6_bitCount_0f7a4_17 rfl ?_
  refine x_ldcw (v := (858993459 : Int32)) C kc_J6_bitCount_0f7a4_266 dJ6_bitCount_0f7a4_18 ?_
  refine x_iand C dJ6_bitCount_0f7a4_21 ?_
  refine x_iadd C dJ6_bitCount_0f7a4_22 ?_
  obtain ⟨z2, hz2⟩ : ∃ y9 : Int32, y9 = ((z1 &&& (858993459 : Int32)) + ((((z1).toUInt32 >>> (((2 : Int32)).toUInt32 &&& Int32.toUInt32 31)).toInt32) &&& (858993459 : Int32))) := ⟨_, rfl⟩
  have hf := hf.trans (g_let_eq hz2)
  have hok := g_let_p hz2 hok
  refine x_topi hz2 ?_
  refine x_istore_n (lv' := [(0, .int z2)]) C dJ6_bitCount_0f7a4_23 rfl (by decide) [0] rfl ?_
  refine x_iload_n C dJ6_bitCount_0f7a4_24 rfl 0 rfl ?_
  refine x_iload_n C dJ6_bitCount_0f7a4_25 rfl 0 rfl ?_
  refine x_iconst (v := (4 : Int32)) C dJ6_bitCount_0f7a4_26 (by decide) ?_
  refine x_iushr C dJ6_bitCount_0f7a4_27 rfl ?_
  refine x_iadd C dJ6_bitCount_0f7a4_28 ?_
  refine x_ldcw (v := (252645135 : Int32)) C kc_J6_bitCount_0f7a4_267 dJ6_bitCount_0f7a4_29 ?_
  refine x_iand C dJ6_bitCount_0f7a4_32 ?_
  obtain ⟨z3, hz3⟩ : ∃ y9 : Int32, y9 = ((z2 + (((z2).toUInt32 >>> (((4 : Int32)).toUInt32 &&& Int32.toUInt32 31)).toInt32)) &&& (252645135 : Int32)) := ⟨_, rfl⟩
  have hf := hf.trans (g_let_eq hz3)
  have hok := g_let_p hz3 hok
  refine x_topi hz3 ?_
  refine x_istore_n (lv' := [(0, .int z3)]) C dJ6_bitCount_0f7a4_33 rfl (by decide) [0] rfl ?_
  refine x_iload_n C dJ6_bitCount_0f7a4_34 rfl 0 rfl ?_
  refine x_iload_n C dJ6_bitCount_0f7a4_35 rfl 0 rfl ?_
  refine x_bipush (v := (8 : Int32)) C dJ6_bitCount_0f7a4_36 (by decide) ?_
  refine x_iushr C dJ6_bitCount_0f7a4_38 rfl ?_
  refine x_iadd C dJ6_bitCount_0f7a4_39 ?_
  obtain ⟨z4, hz4⟩ : ∃ y9 : Int32, y9 = (z3 + (((z3).toUInt32 >>> (((8 : Int32)).toUInt32 &&& Int32.toUInt32 31)).toInt32)) := ⟨_, rfl⟩
  have hf := hf.trans (g_let_eq hz4)
  have hok := g_let_p hz4 hok
  refine x_topi hz4 ?_
  refine x_istore_n (lv' := [(0, .int z4)]) C dJ6_bitCount_0f7a4_40 rfl (by decide) [0] rfl ?_
  refine x_iload_n C dJ6_bitCount_0f7a4_41 rfl 0 rfl ?_
  refine x_iload_n C dJ6_bitCount_0f7a4_42 rfl 0 rfl ?_
  refine x_bipush (v := (16 : Int32)) C dJ6_bitCount_0f7a4_43 (by decide) ?_
  refine x_iushr C dJ6_bitCount_0f7a4_45 rfl ?_
  refine x_iadd C dJ6_bitCount_0f7a4_46 ?_
  obtain ⟨z5, hz5⟩ : ∃ y9 : Int32, y9 = (z4 + (((z4).toUInt32 >>> (((16 : Int32)).toUInt32 &&& Int32.toUInt32 31)).toInt32)) := ⟨_, rfl⟩
  have hf := hf.trans (g_let_eq hz5)
  have hok := g_let_p hz5 hok
  refine x_topi hz5 ?_
  refine x_istore_n (lv' := [(0, .int z5)]) C dJ6_bitCount_0f7a4_47 rfl (by decide) [0] rfl ?_
  refine x_iload_n C dJ6_bitCount_0f7a4_48 rfl 0 rfl ?_
  refine x_bipush (v := (63 : Int32)) C dJ6_bitCount_0f7a4_49 (by decide) ?_
  refine x_iand C dJ6_bitCount_0f7a4_51 ?_
  exact g_iret C hr rfl dJ6_bitCount_0f7a4_52 hf.symm rfl rfl
def shR : List gC := [.inr (.inl (0, [.inr (some false), .inr (some false), .inr (some false), .inr (some false)]))]
set_option maxRecDepth 20000 in
theorem in_X0_restart_0 : ∀ w ∈ u_ws RX0 TX0 4, w ∈ wsX0_restart := by decide +kernel
set_option maxRecDepth 20000 in
theorem k_X0_restart_11 : Cond.fieldLink RX0 11 "HintedPages$Reader" "behind" "I" ∈ wsX0_restart := by decide +kernel
abbrev rm_d_restart : Room := { frames := 0, cells := 0, slots := 0, locals := 0 }
noncomputable def f_d_restart (m : gM) : gM := g_let (g_set m 0 (upd (m 0) 0 (0 : Int32))) (fun z1 : gM => z1)
noncomputable def o_d_restart (m : gM) : Prop := g_let (g_set m 0 (upd (m 0) 0 (0 : Int32))) (fun z1 : gM => True)
set_option maxRecDepth 100000 in
set_option maxHeartbeats 4000000 in
theorem c_d_restart (l : Launch) (G : gG) (q : Nat → Nat) (m : gM) (h : gN) (hok : o_d_restart m) : gMv l yX0_restart wsX0_restart rm_d_restart G shR q m h [.ref (q 0)] (f_d_restart m) h := by
  intro sz
  refine g_met (cc := cX0_restart) (maxL := 1) (ret := none) (own := RX0) (Qc := fun sz => gQv G shR q (f_d_restart m) h sz) (by decide) rfl rfl (Nat.le_of_ble_eq_true rfl) (fun p e s m9 below meth c C hq hr => ?_)
  refine x_lv (lv' := [(0, .ref (q 0))]) [0] rfl ?_
  have hf := f_d_restart.eq_1 m
  have hok := Eq.mp (o_d_restart.eq_1 m) hok
  refine x_aload_n C dX0_restart_0 rfl 0 rfl ?_
  refine x_iconst (v := (0 : Int32)) C dX0_restart_1 (by decide) ?_
  obtain ⟨z1, hz1⟩ : ∃ y9 : gM, y9 = g_set m 0 (upd (m 0) 0 (0 : Int32)) := ⟨_, rfl⟩
  have hf := hf.trans (g_let_eq hz1)
  have hok := g_let_p hz1 hok
  refine x_puti (μ' := z1) (ty := .int) C hq tyX0 tyX0_ok nmX0 in_X0_restart_0 0 rfl rfl 0 (by decide) k_X0_restart_11 rfl (tyX0_ok 0 (by decide)) rfl rfl rfl hz1 dX0_restart_2 ?_
  exact g_vret C hr dX0_restart_5 hf.symm rfl
set_option maxRecDepth 20000 in
theorem in_X0_isPartWhole_0 : ∀ w ∈ u_ws RX0 TX0 4, w ∈ wsX0_isPartWhole := by decide +kernel
set_option maxRecDepth 20000 in
theorem k_X0_isPartWhole_11 : Cond.fieldLink RX0 11 "HintedPages$Reader" "behind" "I" ∈ wsX0_isPartWhole := by decide +kernel
set_option maxRecDepth 20000 in
theorem k_X0_isPartWhole_15 : Cond.fieldLink RX0 15 "HintedPages$Reader" "first" "I" ∈ wsX0_isPartWhole := by decide +kernel
set_option maxRecDepth 20000 in
theorem k_X0_isPartWhole_18 : Cond.fieldLink RX0 18 "HintedPages$Reader" "last" "I" ∈ wsX0_isPartWhole := by decide +kernel
abbrev rm_d_isPartWhole : Room := { frames := 0, cells := 0, slots := 0, locals := 0 }
noncomputable def f_d_isPartWhole (m : gM) : Int32 := (if (m 0 0) = (1 : Int32) then (1 : Int32) else (if (m 0 0) = (5 : Int32) then (1 : Int32) else (if (m 0 0) = (3 : Int32) then (if (m 0 2) ≤ (m 0 1) then (0 : Int32) else (1 : Int32)) else (0 : Int32))))
noncomputable def o_d_isPartWhole (m : gM) : Prop := (if (m 0 0) = (1 : Int32) then True else (if (m 0 0) = (5 : Int32) then True else (if (m 0 0) = (3 : Int32) then (if (m 0 2) ≤ (m 0 1) then True else True) else True)))
set_option maxRecDepth 100000 in
set_option maxHeartbeats 4000000 in
theorem c_d_isPartWhole (l : Launch) (G : gG) (q : Nat → Nat) (m : gM) (h : gN) (hok : o_d_isPartWhole m) : gMi l yX0_isPartWhole wsX0_isPartWhole rm_d_isPartWhole G shR q m h [.ref (q 0)] m h (f_d_isPartWhole m) := by
  intro sz
  refine g_met (cc := cX0_isPartWhole) (maxL := 1) (ret := (some .boolean)) (own := RX0) (Qc := fun sz => gQi G shR q m h sz (f_d_isPartWhole m)) (by decide) rfl rfl (Nat.le_of_ble_eq_true rfl) (fun p e s m9 below meth c C hq hr => ?_)
  refine x_lv (lv' := [(0, .ref (q 0))]) [0] rfl ?_
  have hf := f_d_isPartWhole.eq_1 m
  have hok := Eq.mp (o_d_isPartWhole.eq_1 m) hok
  refine x_aload_n C dX0_isPartWhole_0 rfl 0 rfl ?_
  refine x_get (v := .int (m 0 0)) C in_X0_isPartWhole_0 0 rfl rfl 0 (by decide) k_X0_isPartWhole_11 rfl rfl dX0_isPartWhole_1 ?_
  refine x_iconst (v := (1 : Int32)) C dX0_isPartWhole_4 (by decide) ?_
  refine x_icmp_eq (tgt := 35) C dX0_isPartWhole_5 (by decide) (fun c1 => ?_) (fun c1 => ?_)
  · have hf := hf.trans (if_pos c1)
    have hok := g_ip c1 hok
    refine x_iconst (v := (1 : Int32)) C dX0_isPartWhole_35 (by decide) ?_
    refine x_goto (tgt := 40) C dX0_isPartWhole_36 (by decide) ?_
    exact g_iret C hr (g_nz (Or.inr rfl)) dX0_isPartWhole_40 hf.symm rfl rfl
  · have hf := hf.trans (if_neg c1)
    have hok := g_in c1 hok
    refine x_aload_n C dX0_isPartWhole_8 rfl 0 rfl ?_
    refine x_get (v := .int (m 0 0)) C in_X0_isPartWhole_0 0 rfl rfl 0 (by decide) k_X0_isPartWhole_11 rfl rfl dX0_isPartWhole_9 ?_
    refine x_iconst (v := (5 : Int32)) C dX0_isPartWhole_12 (by decide) ?_
    refine x_icmp_eq (tgt := 35) C dX0_isPartWhole_13 (by decide) (fun c2 => ?_) (fun c2 => ?_)
    · have hf := hf.trans (if_pos c2)
      have hok := g_ip c2 hok
      refine x_iconst (v := (1 : Int32)) C dX0_isPartWhole_35 (by decide) ?_
      refine x_goto (tgt := 40) C dX0_isPartWhole_36 (by decide) ?_
      exact g_iret C hr (g_nz (Or.inr rfl)) dX0_isPartWhole_40 hf.symm rfl rfl
    · have hf := hf.trans (if_neg c2)
      have hok := g_in c2 hok
      refine x_aload_n C dX0_isPartWhole_16 rfl 0 rfl ?_
      refine x_get (v := .int (m 0 0)) C in_X0_isPartWhole_0 0 rfl rfl 0 (by decide) k_X0_isPartWhole_11 rfl rfl dX0_isPartWhole_17 ?_
      refine x_iconst (v := (3 : Int32)) C dX0_isPartWhole_20 (by decide) ?_
      refine x_icmp_ne (tgt := 39) C dX0_isPartWhole_21 (by decide) (fun c3 => ?_) (fun c3 => ?_)
      · have hf := hf.trans (if_neg c3)
        have hok := g_in c3 hok
        refine x_iconst (v := (0 : Int32)) C dX0_isPartWhole_39 (by decide) ?_
        exact g_iret C hr (g_nz (Or.inl rfl)) dX0_isPartWhole_40 hf.symm rfl rfl
      · have hf := hf.trans (if_pos c3)
        have hok := g_ip c3 hok
        refine x_aload_n C dX0_isPartWhole_24 rfl 0 rfl ?_
        refine x_get (v := .int (m 0 2)) C in_X0_isPartWhole_0 0 rfl rfl 2 (by decide) k_X0_isPartWhole_18 rfl rfl dX0_isPartWhole_25 ?_
        refine x_aload_n C dX0_isPartWhole_28 rfl 0 rfl ?_
        refine x_get (v := .int (m 0 1)) C in_X0_isPartWhole_0 0 rfl rfl 1 (by decide) k_X0_isPartWhole_15 rfl rfl dX0_isPartWhole_29 ?_
        refine x_icmp_le (tgt := 39) C dX0_isPartWhole_32 (by decide) (fun c4 => ?_) (fun c4 => ?_)
        · have hf := hf.trans (if_pos c4)
          have hok := g_ip c4 hok
          refine x_iconst (v := (0 : Int32)) C dX0_isPartWhole_39 (by decide) ?_
          exact g_iret C hr (g_nz (Or.inl rfl)) dX0_isPartWhole_40 hf.symm rfl rfl
        · have hf := hf.trans (if_neg c4)
          have hok := g_in c4 hok
          refine x_iconst (v := (1 : Int32)) C dX0_isPartWhole_35 (by decide) ?_
          refine x_goto (tgt := 40) C dX0_isPartWhole_36 (by decide) ?_
          exact g_iret C hr (g_nz (Or.inr rfl)) dX0_isPartWhole_40 hf.symm rfl rfl
abbrev rm_d_mayGrow : Room := { frames := 0, cells := 0, slots := 0, locals := 0 }
noncomputable def f_d_mayGrow (a1 : Int32) : Int32 := (if a1 < (1 : Int32) then (0 : Int32) else (if (3 : Int32) < a1 then (0 : Int32) else (1 : Int32)))
noncomputable def o_d_mayGrow (a1 : Int32) : Prop := (if a1 < (1 : Int32) then True else (if (3 : Int32) < a1 then True else True))
set_option maxRecDepth 100000 in
set_option maxHeartbeats 4000000 in
theorem c_d_mayGrow (l : Launch) (G : gG) (q : Nat → Nat) (m : gM) (h : gN) (a1 : Int32) (hok : o_d_mayGrow a1) : gMi l yX0_mayGrow wsX0_mayGrow rm_d_mayGrow G sh0 q m h [.int a1] m h (f_d_mayGrow a1) := by
  intro sz
  refine g_met (cc := cX0_mayGrow) (maxL := 1) (ret := (some .boolean)) (own := RX0) (Qc := fun sz => gQi G sh0 q m h sz (f_d_mayGrow a1)) (by decide) rfl rfl (Nat.le_of_ble_eq_true rfl) (fun p e s m9 below meth c C hq hr => ?_)
  refine x_lv (lv' := [(0, .int a1)]) [0] rfl ?_
  have hf := f_d_mayGrow.eq_1 a1
  have hok := Eq.mp (o_d_mayGrow.eq_1 a1) hok
  refine x_iload_n C dX0_mayGrow_0 rfl 0 rfl ?_
  refine x_iconst (v := (1 : Int32)) C dX0_mayGrow_1 (by decide) ?_
  refine x_icmp_lt (tgt := 14) C dX0_mayGrow_2 (by decide) (fun c1 => ?_) (fun c1 => ?_)
  · have hf := hf.trans (if_pos c1)
    have hok := g_ip c1 hok
    refine x_iconst (v := (0 : Int32)) C dX0_mayGrow_14 (by decide) ?_
    exact g_iret C hr (g_nz (Or.inl rfl)) dX0_mayGrow_15 hf.symm rfl rfl
  · have hf := hf.trans (if_neg c1)
    have hok := g_in c1 hok
    refine x_iload_n C dX0_mayGrow_5 rfl 0 rfl ?_
    refine x_iconst (v := (3 : Int32)) C dX0_mayGrow_6 (by decide) ?_
    refine x_icmp_gt (tgt := 14) C dX0_mayGrow_7 (by decide) (fun c2 => ?_) (fun c2 => ?_)
    · have hf := hf.trans (if_pos c2)
      have hok := g_ip c2 hok
      refine x_iconst (v := (0 : Int32)) C dX0_mayGrow_14 (by decide) ?_
      exact g_iret C hr (g_nz (Or.inl rfl)) dX0_mayGrow_15 hf.symm rfl rfl
    · have hf := hf.trans (if_neg c2)
      have hok := g_in c2 hok
      refine x_iconst (v := (1 : Int32)) C dX0_mayGrow_10 (by decide) ?_
      refine x_goto (tgt := 15) C dX0_mayGrow_11 (by decide) ?_
      exact g_iret C hr (g_nz (Or.inr rfl)) dX0_mayGrow_15 hf.symm rfl rfl
set_option maxRecDepth 20000 in
theorem in_X0_goesOn_0 : ∀ w ∈ u_ws RX0 TX0 4, w ∈ wsX0_goesOn := by decide +kernel
set_option maxRecDepth 20000 in
theorem k_X0_goesOn_11 : Cond.fieldLink RX0 11 "HintedPages$Reader" "behind" "I" ∈ wsX0_goesOn := by decide +kernel
abbrev rm_d_goesOn : Room := { frames := 0, cells := 0, slots := 0, locals := 0 }
noncomputable def f_d_goesOn (m : gM) (a1 : Int32) (a2 : Int32) : Int32 × gM := (if a1 = 0 then (a1, m) else g_let (g_set m 0 (upd (m 0) 0 a2)) (fun z2 : gM => (a1, z2)))
noncomputable def o_d_goesOn (m : gM) (a1 : Int32) (a2 : Int32) : Prop := (if a1 = 0 then (a1 = 0 ∨ a1 = 1) ∧ True else g_let (g_set m 0 (upd (m 0) 0 a2)) (fun z2 : gM => (a1 = 0 ∨ a1 = 1) ∧ True))
set_option maxRecDepth 100000 in
set_option maxHeartbeats 4000000 in
theorem c_d_goesOn (l : Launch) (G : gG) (q : Nat → Nat) (m : gM) (h : gN) (a1 : Int32) (a2 : Int32) (hok : o_d_goesOn m a1 a2) : gMi l yX0_goesOn wsX0_goesOn rm_d_goesOn G shR q m h [.ref (q 0), .int a1, .int a2] ((f_d_goesOn m a1 a2).2) h ((f_d_goesOn m a1 a2).1) := by
  intro sz
  refine g_met (cc := cX0_goesOn) (maxL := 3) (ret := (some .boolean)) (own := RX0) (Qc := fun sz => gQi G shR q ((f_d_goesOn m a1 a2).2) h sz ((f_d_goesOn m a1 a2).1)) (by decide) rfl rfl (Nat.le_of_ble_eq_true rfl) (fun p e s m9 below meth c C hq hr => ?_)
  refine x_lv (lv' := [(0, .ref (q 0)), (1, .int a1), (2, .int a2)]) [0, 1, 2] rfl ?_
  have hf := f_d_goesOn.eq_1 m a1 a2
  have hok := Eq.mp (o_d_goesOn.eq_1 m a1 a2) hok
  refine x_iload_n C dX0_goesOn_0 rfl 1 rfl ?_
  refine x_if_eq (tgt := 9) C dX0_goesOn_1 (by decide) (fun c1 => ?_) (fun c1 => ?_)
  · have hf := hf.trans (if_pos c1)
    have hok := g_ip c1 hok
    refine x_iload_n C dX0_goesOn_9 rfl 1 rfl ?_
    have h01 := And.left hok
    exact g_iret C hr (g_nz h01) dX0_goesOn_10 (congrArg (fun z => z.1) hf).symm (congrArg (fun z => z.2) hf).symm rfl
  · have hf := hf.trans (if_neg c1)
    have hok := g_in c1 hok
    refine x_aload_n C dX0_goesOn_4 rfl 0 rfl ?_
    refine x_iload_n C dX0_goesOn_5 rfl 2 rfl ?_
    obtain ⟨z2, hz2⟩ : ∃ y9 : gM, y9 = g_set m 0 (upd (m 0) 0 a2) := ⟨_, rfl⟩
    have hf := hf.trans (g_let_eq hz2)
    have hok := g_let_p hz2 hok
    refine x_puti (μ' := z2) (ty := .int) C hq tyX0 tyX0_ok nmX0 in_X0_goesOn_0 0 rfl rfl 0 (by decide) k_X0_goesOn_11 rfl (tyX0_ok 0 (by decide)) rfl rfl rfl hz2 dX0_goesOn_6 ?_
    refine x_iload_n C dX0_goesOn_9 rfl 1 rfl ?_
    have h01 := And.left hok
    exact g_iret C hr (g_nz h01) dX0_goesOn_10 (congrArg (fun z => z.1) hf).symm (congrArg (fun z => z.2) hf).symm rfl
set_option maxRecDepth 20000 in
theorem gs_R_0_ : gSub shR sh0 [] := ⟨by decide, rfl⟩
set_option maxRecDepth 20000 in
theorem in_X0_acceptsFirst_0 : ∀ w ∈ u_ws RX0 TX0 4, w ∈ wsX0_acceptsFirst := by decide +kernel
set_option maxRecDepth 20000 in
theorem k_X0_acceptsFirst_15 : Cond.fieldLink RX0 15 "HintedPages$Reader" "first" "I" ∈ wsX0_acceptsFirst := by decide +kernel
set_option maxRecDepth 20000 in
theorem k_X0_acceptsFirst_18 : Cond.fieldLink RX0 18 "HintedPages$Reader" "last" "I" ∈ wsX0_acceptsFirst := by decide +kernel
abbrev rm_d_acceptsFirst : Room := { frames := 1, cells := 0, slots := 0, locals := 20 }
noncomputable def f_d_acceptsFirst (m : gM) (a1 : Int32) : Int32 × gM := (if (f_d_mayGrow (m 0 1)) = 0 then ((0 : Int32), m) else g_let (g_set m 0 (upd (m 0) 1 a1)) (fun z3 : gM => g_let (g_set z3 0 (upd (z3 0) 2 a1)) (fun z4 : gM => ((1 : Int32), z4))))
noncomputable def o_d_acceptsFirst (m : gM) (a1 : Int32) : Prop := (o_d_mayGrow (m 0 1)) ∧ ((if (f_d_mayGrow (m 0 1)) = 0 then True else g_let (g_set m 0 (upd (m 0) 1 a1)) (fun z3 : gM => g_let (g_set z3 0 (upd (z3 0) 2 a1)) (fun z4 : gM => True))))
set_option maxRecDepth 100000 in
set_option maxHeartbeats 4000000 in
theorem c_d_acceptsFirst (l : Launch) (G : gG) (q : Nat → Nat) (m : gM) (h : gN) (a1 : Int32) (hok : o_d_acceptsFirst m a1) : gMi l yX0_acceptsFirst wsX0_acceptsFirst rm_d_acceptsFirst G shR q m h [.ref (q 0), .int a1] ((f_d_acceptsFirst m a1).2) h ((f_d_acceptsFirst m a1).1) := by
  intro sz
  refine g_met (cc := cX0_acceptsFirst) (maxL := 2) (ret := (some .boolean)) (own := RX0) (Qc := fun sz => gQi G shR q ((f_d_acceptsFirst m a1).2) h sz ((f_d_acceptsFirst m a1).1)) (by decide) rfl rfl (Nat.le_of_ble_eq_true rfl) (fun p e s m9 below meth c C hq hr => ?_)
  refine x_lv (lv' := [(0, .ref (q 0)), (1, .int a1)]) [0, 1] rfl ?_
  have hf := f_d_acceptsFirst.eq_1 m a1
  have hok := Eq.mp (o_d_acceptsFirst.eq_1 m a1) hok
  refine x_aload_n C dX0_acceptsFirst_0 rfl 0 rfl ?_
  refine x_get (v := .int (m 0 1)) C in_X0_acceptsFirst_0 0 rfl rfl 1 (by decide) k_X0_acceptsFirst_15 rfl rfl dX0_acceptsFirst_1 ?_
  have s1 := And.left hok
  have hok := And.right hok
  refine x_callSi (n := 1) C hq (gFr_pure gs_R_0_) (c_d_mayGrow l G (g_sel [] q) (g_sel [] m) (g_sel [] h) (m 0 1) s1) (va_cwS 1 C.2.2.2.2.2.1 gX0_acceptsFirst_X0_mayGrow rfl rfl rfl (by decide +kernel) ⟨Nat.le_of_ble_eq_true rfl, Nat.le_of_ble_eq_true rfl⟩) rfl rfl (Nat.le_of_ble_eq_true rfl) dX0_acceptsFirst_4 (Nat.zero_le _) (Nat.zero_le _) ?_
  refine x_if_ne (tgt := 12) C dX0_acceptsFirst_7 (by decide) (fun c2 => ?_) (fun c2 => ?_)
  · have hf := hf.trans (if_neg c2)
    have hok := g_in c2 hok
    refine x_aload_n C dX0_acceptsFirst_12 rfl 0 rfl ?_
    refine x_iload_n C dX0_acceptsFirst_13 rfl 1 rfl ?_
    obtain ⟨z3, hz3⟩ : ∃ y9 : gM, y9 = g_set m 0 (upd (m 0) 1 a1) := ⟨_, rfl⟩
    have hf := hf.trans (g_let_eq hz3)
    have hok := g_let_p hz3 hok
    refine x_puti (μ' := z3) (ty := .int) C hq tyX0 tyX0_ok nmX0 in_X0_acceptsFirst_0 0 rfl rfl 1 (by decide) k_X0_acceptsFirst_15 rfl (tyX0_ok 1 (by decide)) rfl rfl rfl hz3 dX0_acceptsFirst_14 ?_
    refine x_aload_n C dX0_acceptsFirst_17 rfl 0 rfl ?_
    refine x_iload_n C dX0_acceptsFirst_18 rfl 1 rfl ?_
    obtain ⟨z4, hz4⟩ : ∃ y9 : gM, y9 = g_set z3 0 (upd (z3 0) 2 a1) := ⟨_, rfl⟩
    have hf := hf.trans (g_let_eq hz4)
    have hok := g_let_p hz4 hok
    refine x_puti (μ' := z4) (ty := .int) C hq tyX0 tyX0_ok nmX0 in_X0_acceptsFirst_0 0 rfl rfl 2 (by decide) k_X0_acceptsFirst_18 rfl (tyX0_ok 2 (by decide)) rfl rfl rfl hz4 dX0_acceptsFirst_19 ?_
    refine x_iconst (v := (1 : Int32)) C dX0_acceptsFirst_22 (by decide) ?_
    exact g_iret C hr (g_nz (Or.inr rfl)) dX0_acceptsFirst_23 (congrArg (fun z => z.1) hf).symm (congrArg (fun z => z.2) hf).symm rfl
  · have hf := hf.trans (if_pos c2)
    have hok := g_ip c2 hok
    refine x_iconst (v := (0 : Int32)) C dX0_acceptsFirst_10 (by decide) ?_
    exact g_iret C hr (g_nz (Or.inl rfl)) dX0_acceptsFirst_11 (congrArg (fun z => z.1) hf).symm (congrArg (fun z => z.2) hf).symm rfl
set_option maxRecDepth 20000 in
theorem in_X0_acceptsLast_0 : ∀ w ∈ u_ws RX0 TX0 4, w ∈ wsX0_acceptsLast := by decide +kernel
set_option maxRecDepth 20000 in
theorem k_X0_acceptsLast_18 : Cond.fieldLink RX0 18 "HintedPages$Reader" "last" "I" ∈ wsX0_acceptsLast := by decide +kernel
abbrev rm_d_acceptsLast : Room := { frames := 1, cells := 0, slots := 0, locals := 22 }
noncomputable def f_d_acceptsLast (m : gM) (a1 : Int32) (a2 : Int32) : Int32 × gM := (if a2 = 0 then ((0 : Int32), m) else g_let (g_set m 0 (upd (m 0) 2 a1)) (fun z2 : gM => g_let (f_d_goesOn z2 (1 : Int32) (3 : Int32)) (fun z4 : Int32 × gM => (z4.1, z4.2))))
noncomputable def o_d_acceptsLast (m : gM) (a1 : Int32) (a2 : Int32) : Prop := (if a2 = 0 then True else g_let (g_set m 0 (upd (m 0) 2 a1)) (fun z2 : gM => (o_d_goesOn z2 (1 : Int32) (3 : Int32)) ∧ (g_let (f_d_goesOn z2 (1 : Int32) (3 : Int32)) (fun z4 : Int32 × gM => (z4.1 = 0 ∨ z4.1 = 1) ∧ True))))
set_option maxRecDepth 100000 in
set_option maxHeartbeats 4000000 in
theorem c_d_acceptsLast (l : Launch) (G : gG) (q : Nat → Nat) (m : gM) (h : gN) (a1 : Int32) (a2 : Int32) (hok : o_d_acceptsLast m a1 a2) : gMi l yX0_acceptsLast wsX0_acceptsLast rm_d_acceptsLast G shR q m h [.ref (q 0), .int a1, .int a2] ((f_d_acceptsLast m a1 a2).2) h ((f_d_acceptsLast m a1 a2).1) := by
  intro sz
  refine g_met (cc := cX0_acceptsLast) (maxL := 3) (ret := (some .boolean)) (own := RX0) (Qc := fun sz => gQi G shR q ((f_d_acceptsLast m a1 a2).2) h sz ((f_d_acceptsLast m a1 a2).1)) (by decide) rfl rfl (Nat.le_of_ble_eq_true rfl) (fun p e s m9 below meth c C hq hr => ?_)
  refine x_lv (lv' := [(0, .ref (q 0)), (1, .int a1), (2, .int a2)]) [0, 1, 2] rfl ?_
  have hf := f_d_acceptsLast.eq_1 m a1 a2
  have hok := Eq.mp (o_d_acceptsLast.eq_1 m a1 a2) hok
  refine x_iload_n C dX0_acceptsLast_0 rfl 2 rfl ?_
  refine x_if_ne (tgt := 6) C dX0_acceptsLast_1 (by decide) (fun c1 => ?_) (fun c1 => ?_)
  · have hf := hf.trans (if_neg c1)
    have hok := g_in c1 hok
    refine x_aload_n C dX0_acceptsLast_6 rfl 0 rfl ?_
    refine x_iload_n C dX0_acceptsLast_7 rfl 1 rfl ?_
    obtain ⟨z2, hz2⟩ : ∃ y9 : gM, y9 = g_set m 0 (upd (m 0) 2 a1) := ⟨_, rfl⟩
    have hf := hf.trans (g_let_eq hz2)
    have hok := g_let_p hz2 hok
    refine x_puti (μ' := z2) (ty := .int) C hq tyX0 tyX0_ok nmX0 in_X0_acceptsLast_0 0 rfl rfl 2 (by decide) k_X0_acceptsLast_18 rfl (tyX0_ok 2 (by decide)) rfl rfl rfl hz2 dX0_acceptsLast_8 ?_
    refine x_aload_n C dX0_acceptsLast_11 rfl 0 rfl ?_
    refine x_iconst (v := (1 : Int32)) C dX0_acceptsLast_12 (by decide) ?_
    refine x_iconst (v := (3 : Int32)) C dX0_acceptsLast_13 (by decide) ?_
    have s3 := And.left hok
    have hok := And.right hok
    obtain ⟨z4, hz4⟩ : ∃ y9 : Int32 × gM, y9 = f_d_goesOn z2 (1 : Int32) (3 : Int32) := ⟨_, rfl⟩
    have hf := hf.trans (g_let_eq hz4)
    have hok := g_let_p hz4 hok
    have hmz4 : gMi l yX0_goesOn wsX0_goesOn rm_d_goesOn G shR q z2 h [.ref (q 0), .int (1 : Int32), .int (3 : Int32)] z4.2 h z4.1 := by rw [hz4]; exact c_d_goesOn l G q z2 h (1 : Int32) (3 : Int32) s3
    refine x_callVi (n := 2) C hq gFr_same (hmz4) (cwV 2 C.2.2.2.2.2.1 gX0_acceptsLast_X0_goesOn rfl rfl rfl (by decide +kernel) ⟨Nat.le_of_ble_eq_true rfl, Nat.le_of_ble_eq_true rfl⟩) rfl rfl rfl rfl (Nat.le_of_ble_eq_true rfl) dX0_acceptsLast_14 (Nat.zero_le _) (Nat.zero_le _) ?_
    have h01 := And.left hok
    exact g_iret C hr (g_nz h01) dX0_acceptsLast_17 (congrArg (fun z => z.1) hf).symm (congrArg (fun z => z.2) hf).symm rfl
  · have hf := hf.trans (if_pos c1)
    have hok := g_ip c1 hok
    refine x_iconst (v := (0 : Int32)) C dX0_acceptsLast_4 (by decide) ?_
    exact g_iret C hr (g_nz (Or.inl rfl)) dX0_acceptsLast_5 (congrArg (fun z => z.1) hf).symm (congrArg (fun z => z.2) hf).symm rfl
set_option maxRecDepth 20000 in
theorem in_X0_acceptsHint_0 : ∀ w ∈ u_ws RX0 TX0 4, w ∈ wsX0_acceptsHint := by decide +kernel
set_option maxRecDepth 20000 in
theorem k_X0_acceptsHint_21 : Cond.fieldLink RX0 21 "HintedPages$Reader" "hint" "I" ∈ wsX0_acceptsHint := by decide +kernel
abbrev rm_d_acceptsHint : Room := { frames := 1, cells := 0, slots := 0, locals := 22 }
noncomputable def f_d_acceptsHint (m : gM) (a1 : Int32) : Int32 × gM := (if a1 < (4 : Int32) then g_let (g_set m 0 (upd (m 0) 3 a1)) (fun z2 : gM => g_let (f_d_goesOn z2 (1 : Int32) (5 : Int32)) (fun z4 : Int32 × gM => (z4.1, z4.2))) else ((0 : Int32), m))
noncomputable def o_d_acceptsHint (m : gM) (a1 : Int32) : Prop := (if a1 < (4 : Int32) then g_let (g_set m 0 (upd (m 0) 3 a1)) (fun z2 : gM => (o_d_goesOn z2 (1 : Int32) (5 : Int32)) ∧ (g_let (f_d_goesOn z2 (1 : Int32) (5 : Int32)) (fun z4 : Int32 × gM => (z4.1 = 0 ∨ z4.1 = 1) ∧ True))) else True)
set_option maxRecDepth 100000 in
set_option maxHeartbeats 4000000 in
theorem c_d_acceptsHint (l : Launch) (G : gG) (q : Nat → Nat) (m : gM) (h : gN) (a1 : Int32) (hok : o_d_acceptsHint m a1) : gMi l yX0_acceptsHint wsX0_acceptsHint rm_d_acceptsHint G shR q m h [.ref (q 0), .int a1] ((f_d_acceptsHint m a1).2) h ((f_d_acceptsHint m a1).1) := by
  intro sz
  refine g_met (cc := cX0_acceptsHint) (maxL := 2) (ret := (some .boolean)) (own := RX0) (Qc := fun sz => gQi G shR q ((f_d_acceptsHint m a1).2) h sz ((f_d_acceptsHint m a1).1)) (by decide) rfl rfl (Nat.le_of_ble_eq_true rfl) (fun p e s m9 below meth c C hq hr => ?_)
  refine x_lv (lv' := [(0, .ref (q 0)), (1, .int a1)]) [0, 1] rfl ?_
  have hf := f_d_acceptsHint.eq_1 m a1
  have hok := Eq.mp (o_d_acceptsHint.eq_1 m a1) hok
  refine x_iload_n C dX0_acceptsHint_0 rfl 1 rfl ?_
  refine x_iconst (v := (4 : Int32)) C dX0_acceptsHint_1 (by decide) ?_
  refine x_icmp_lt (tgt := 7) C dX0_acceptsHint_2 (by decide) (fun c1 => ?_) (fun c1 => ?_)
  · have hf := hf.trans (if_pos c1)
    have hok := g_ip c1 hok
    refine x_aload_n C dX0_acceptsHint_7 rfl 0 rfl ?_
    refine x_iload_n C dX0_acceptsHint_8 rfl 1 rfl ?_
    obtain ⟨z2, hz2⟩ : ∃ y9 : gM, y9 = g_set m 0 (upd (m 0) 3 a1) := ⟨_, rfl⟩
    have hf := hf.trans (g_let_eq hz2)
    have hok := g_let_p hz2 hok
    refine x_puti (μ' := z2) (ty := .int) C hq tyX0 tyX0_ok nmX0 in_X0_acceptsHint_0 0 rfl rfl 3 (by decide) k_X0_acceptsHint_21 rfl (tyX0_ok 3 (by decide)) rfl rfl rfl hz2 dX0_acceptsHint_9 ?_
    refine x_aload_n C dX0_acceptsHint_12 rfl 0 rfl ?_
    refine x_iconst (v := (1 : Int32)) C dX0_acceptsHint_13 (by decide) ?_
    refine x_iconst (v := (5 : Int32)) C dX0_acceptsHint_14 (by decide) ?_
    have s3 := And.left hok
    have hok := And.right hok
    obtain ⟨z4, hz4⟩ : ∃ y9 : Int32 × gM, y9 = f_d_goesOn z2 (1 : Int32) (5 : Int32) := ⟨_, rfl⟩
    have hf := hf.trans (g_let_eq hz4)
    have hok := g_let_p hz4 hok
    have hmz4 : gMi l yX0_goesOn wsX0_goesOn rm_d_goesOn G shR q z2 h [.ref (q 0), .int (1 : Int32), .int (5 : Int32)] z4.2 h z4.1 := by rw [hz4]; exact c_d_goesOn l G q z2 h (1 : Int32) (5 : Int32) s3
    refine x_callVi (n := 2) C hq gFr_same (hmz4) (cwV 2 C.2.2.2.2.2.1 gX0_acceptsHint_X0_goesOn rfl rfl rfl (by decide +kernel) ⟨Nat.le_of_ble_eq_true rfl, Nat.le_of_ble_eq_true rfl⟩) rfl rfl rfl rfl (Nat.le_of_ble_eq_true rfl) dX0_acceptsHint_15 (Nat.zero_le _) (Nat.zero_le _) ?_
    have h01 := And.left hok
    exact g_iret C hr (g_nz h01) dX0_acceptsHint_18 (congrArg (fun z => z.1) hf).symm (congrArg (fun z => z.2) hf).symm rfl
  · have hf := hf.trans (if_neg c1)
    have hok := g_in c1 hok
    refine x_iconst (v := (0 : Int32)) C dX0_acceptsHint_5 (by decide) ?_
    exact g_iret C hr (g_nz (Or.inl rfl)) dX0_acceptsHint_6 (congrArg (fun z => z.1) hf).symm (congrArg (fun z => z.2) hf).symm rfl
set_option maxRecDepth 20000 in
theorem in_X0_acceptsDigit_0 : ∀ w ∈ u_ws RX0 TX0 4, w ∈ wsX0_acceptsDigit := by decide +kernel
set_option maxRecDepth 20000 in
theorem k_X0_acceptsDigit_11 : Cond.fieldLink RX0 11 "HintedPages$Reader" "behind" "I" ∈ wsX0_acceptsDigit := by decide +kernel
set_option maxRecDepth 20000 in
theorem k_X0_acceptsDigit_15 : Cond.fieldLink RX0 15 "HintedPages$Reader" "first" "I" ∈ wsX0_acceptsDigit := by decide +kernel
set_option maxRecDepth 20000 in
theorem k_X0_acceptsDigit_18 : Cond.fieldLink RX0 18 "HintedPages$Reader" "last" "I" ∈ wsX0_acceptsDigit := by decide +kernel
set_option maxRecDepth 20000 in
theorem k_X0_acceptsDigit_21 : Cond.fieldLink RX0 21 "HintedPages$Reader" "hint" "I" ∈ wsX0_acceptsDigit := by decide +kernel
abbrev rm_d_acceptsDigit : Room := { frames := 2, cells := 0, slots := 0, locals := 44 }
noncomputable def f_d_acceptsDigit (m : gM) (a1 : Int32) : Int32 × gM := g_let ((m 0 0)) (fun z1 : Int32 => (if z1 = (0 : Int32) then g_let (g_set m 0 (upd (m 0) 1 a1)) (fun z3 : gM => g_let (g_set z3 0 (upd (z3 0) 2 a1)) (fun z4 : gM => g_let (g_set z4 0 (upd (z4 0) 3 (0 : Int32))) (fun z5 : gM => g_let (f_d_goesOn z5 (1 : Int32) (1 : Int32)) (fun z7 : Int32 × gM => (z7.1, z7.2))))) else (if z1 = (1 : Int32) then g_let (f_d_acceptsFirst m (((m 0 1) * (10 : Int32)) + a1)) (fun z10 : Int32 × gM => (z10.1, z10.2)) else (if z1 = (2 : Int32) then (if (m 0 1) < a1 then g_let (f_d_acceptsLast m a1 (1 : Int32)) (fun z14 : Int32 × gM => (z14.1, z14.2)) else (if (f_d_mayGrow a1) = 0 then g_let (f_d_acceptsLast m a1 (0 : Int32)) (fun z18 : Int32 × gM => (z18.1, z18.2)) else (if ((a1 * (10 : Int32)) + (9 : Int32)) ≤ (m 0 1) then g_let (f_d_acceptsLast m a1 (0 : Int32)) (fun z21 : Int32 × gM => (z21.1, z21.2)) else g_let (f_d_acceptsLast m a1 (1 : Int32)) (fun z23 : Int32 × gM => (z23.1, z23.2))))) else (if z1 = (3 : Int32) then (if (f_d_mayGrow (m 0 2)) = 0 then g_let (f_d_acceptsLast m (((m 0 2) * (10 : Int32)) + a1) (0 : Int32)) (fun z28 : Int32 × gM => (z28.1, z28.2)) else (if (((m 0 2) * (10 : Int32)) + a1) ≤ (m 0 1) then g_let (f_d_acceptsLast m (((m 0 2) * (10 : Int32)) + a1) (0 : Int32)) (fun z31 : Int32 × gM => (z31.1, z31.2)) else g_let (f_d_acceptsLast m (((m 0 2) * (10 : Int32)) + a1) (1 : Int32)) (fun z33 : Int32 × gM => (z33.1, z33.2)))) else (if z1 = (4 : Int32) then g_let (f_d_acceptsHint m a1) (fun z36 : Int32 × gM => (z36.1, z36.2)) else ((0 : Int32), m)))))))
noncomputable def o_d_acceptsDigit (m : gM) (a1 : Int32) : Prop := g_let ((m 0 0)) (fun z1 : Int32 => (if z1 = (0 : Int32) then g_let (g_set m 0 (upd (m 0) 1 a1)) (fun z3 : gM => g_let (g_set z3 0 (upd (z3 0) 2 a1)) (fun z4 : gM => g_let (g_set z4 0 (upd (z4 0) 3 (0 : Int32))) (fun z5 : gM => (o_d_goesOn z5 (1 : Int32) (1 : Int32)) ∧ (g_let (f_d_goesOn z5 (1 : Int32) (1 : Int32)) (fun z7 : Int32 × gM => (z7.1 = 0 ∨ z7.1 = 1) ∧ True))))) else (if z1 = (1 : Int32) then (o_d_acceptsFirst m (((m 0 1) * (10 : Int32)) + a1)) ∧ (g_let (f_d_acceptsFirst m (((m 0 1) * (10 : Int32)) + a1)) (fun z10 : Int32 × gM => (z10.1 = 0 ∨ z10.1 = 1) ∧ True)) else (if z1 = (2 : Int32) then (if (m 0 1) < a1 then (o_d_acceptsLast m a1 (1 : Int32)) ∧ (g_let (f_d_acceptsLast m a1 (1 : Int32)) (fun z14 : Int32 × gM => (z14.1 = 0 ∨ z14.1 = 1) ∧ True)) else (o_d_mayGrow a1) ∧ ((if (f_d_mayGrow a1) = 0 then (o_d_acceptsLast m a1 (0 : Int32)) ∧ (g_let (f_d_acceptsLast m a1 (0 : Int32)) (fun z18 : Int32 × gM => (z18.1 = 0 ∨ z18.1 = 1) ∧ True)) else (if ((a1 * (10 : Int32)) + (9 : Int32)) ≤ (m 0 1) then (o_d_acceptsLast m a1 (0 : Int32)) ∧ (g_let (f_d_acceptsLast m a1 (0 : Int32)) (fun z21 : Int32 × gM => (z21.1 = 0 ∨ z21.1 = 1) ∧ True)) else (o_d_acceptsLast m a1 (1 : Int32)) ∧ (g_let (f_d_acceptsLast m a1 (1 : Int32)) (fun z23 : Int32 × gM => (z23.1 = 0 ∨ z23.1 = 1) ∧ True)))))) else (if z1 = (3 : Int32) then (o_d_mayGrow (m 0 2)) ∧ ((if (f_d_mayGrow (m 0 2)) = 0 then (o_d_acceptsLast m (((m 0 2) * (10 : Int32)) + a1) (0 : Int32)) ∧ (g_let (f_d_acceptsLast m (((m 0 2) * (10 : Int32)) + a1) (0 : Int32)) (fun z28 : Int32 × gM => (z28.1 = 0 ∨ z28.1 = 1) ∧ True)) else (if (((m 0 2) * (10 : Int32)) + a1) ≤ (m 0 1) then (o_d_acceptsLast m (((m 0 2) * (10 : Int32)) + a1) (0 : Int32)) ∧ (g_let (f_d_acceptsLast m (((m 0 2) * (10 : Int32)) + a1) (0 : Int32)) (fun z31 : Int32 × gM => (z31.1 = 0 ∨ z31.1 = 1) ∧ True)) else (o_d_acceptsLast m (((m 0 2) * (10 : Int32)) + a1) (1 : Int32)) ∧ (g_let (f_d_acceptsLast m (((m 0 2) * (10 : Int32)) + a1) (1 : Int32)) (fun z33 : Int32 × gM => (z33.1 = 0 ∨ z33.1 = 1) ∧ True))))) else (if z1 = (4 : Int32) then (o_d_acceptsHint m a1) ∧ (g_let (f_d_acceptsHint m a1) (fun z36 : Int32 × gM => (z36.1 = 0 ∨ z36.1 = 1) ∧ True)) else True))))))
set_option maxRecDepth 100000 in
set_option maxHeartbeats 4000000 in
theorem c_d_acceptsDigit (l : Launch) (G : gG) (q : Nat → Nat) (m : gM) (h : gN) (a1 : Int32) (hok : o_d_acceptsDigit m a1) : gMi l yX0_acceptsDigit wsX0_acceptsDigit rm_d_acceptsDigit G shR q m h [.ref (q 0), .int a1] ((f_d_acceptsDigit m a1).2) h ((f_d_acceptsDigit m a1).1) := by
  intro sz
  refine g_met (cc := cX0_acceptsDigit) (maxL := 2) (ret := (some .boolean)) (own := RX0) (Qc := fun sz => gQi G shR q ((f_d_acceptsDigit m a1).2) h sz ((f_d_acceptsDigit m a1).1)) (by decide) rfl rfl (Nat.le_of_ble_eq_true rfl) (fun p e s m9 below meth c C hq hr => ?_)
  refine x_lv (lv' := [(0, .ref (q 0)), (1, .int a1)]) [0, 1] rfl ?_
  have hf := f_d_acceptsDigit.eq_1 m a1
  have hok := Eq.mp (o_d_acceptsDigit.eq_1 m a1) hok
  refine x_aload_n C dX0_acceptsDigit_0 rfl 0 rfl ?_
  refine x_get (v := .int (m 0 0)) C in_X0_acceptsDigit_0 0 rfl rfl 0 (by decide) k_X0_acceptsDigit_11 rfl rfl dX0_acceptsDigit_1 ?_
  obtain ⟨z1, hz1⟩ : ∃ y9 : Int32, y9 = (m 0 0) := ⟨_, rfl⟩
  have hf := hf.trans (g_let_eq hz1)
  have hok := g_let_p hz1 hok
  refine x_topi hz1 ?_
  by_cases c2 : z1 = (0 : Int32)
  · have hf := hf.trans (if_pos c2)
    have hok := g_ip c2 hok
    refine x_tin (tgt := 40) C dX0_acceptsDigit_4 c2 (by decide) (by decide) rfl (by decide) ?_
    refine x_aload_n C dX0_acceptsDigit_40 rfl 0 rfl ?_
    refine x_iload_n C dX0_acceptsDigit_41 rfl 1 rfl ?_
    obtain ⟨z3, hz3⟩ : ∃ y9 : gM, y9 = g_set m 0 (upd (m 0) 1 a1) := ⟨_, rfl⟩
    have hf := hf.trans (g_let_eq hz3)
    have hok := g_let_p hz3 hok
    refine x_puti (μ' := z3) (ty := .int) C hq tyX0 tyX0_ok nmX0 in_X0_acceptsDigit_0 0 rfl rfl 1 (by decide) k_X0_acceptsDigit_15 rfl (tyX0_ok 1 (by decide)) rfl rfl rfl hz3 dX0_acceptsDigit_42 ?_
    refine x_aload_n C dX0_acceptsDigit_45 rfl 0 rfl ?_
    refine x_iload_n C dX0_acceptsDigit_46 rfl 1 rfl ?_
    obtain ⟨z4, hz4⟩ : ∃ y9 : gM, y9 = g_set z3 0 (upd (z3 0) 2 a1) := ⟨_, rfl⟩
    have hf := hf.trans (g_let_eq hz4)
    have hok := g_let_p hz4 hok
    refine x_puti (μ' := z4) (ty := .int) C hq tyX0 tyX0_ok nmX0 in_X0_acceptsDigit_0 0 rfl rfl 2 (by decide) k_X0_acceptsDigit_18 rfl (tyX0_ok 2 (by decide)) rfl rfl rfl hz4 dX0_acceptsDigit_47 ?_
    refine x_aload_n C dX0_acceptsDigit_50 rfl 0 rfl ?_
    refine x_iconst (v := (0 : Int32)) C dX0_acceptsDigit_51 (by decide) ?_
    obtain ⟨z5, hz5⟩ : ∃ y9 : gM, y9 = g_set z4 0 (upd (z4 0) 3 (0 : Int32)) := ⟨_, rfl⟩
    have hf := hf.trans (g_let_eq hz5)
    have hok := g_let_p hz5 hok
    refine x_puti (μ' := z5) (ty := .int) C hq tyX0 tyX0_ok nmX0 in_X0_acceptsDigit_0 0 rfl rfl 3 (by decide) k_X0_acceptsDigit_21 rfl (tyX0_ok 3 (by decide)) rfl rfl rfl hz5 dX0_acceptsDigit_52 ?_
    refine x_aload_n C dX0_acceptsDigit_55 rfl 0 rfl ?_
    refine x_iconst (v := (1 : Int32)) C dX0_acceptsDigit_56 (by decide) ?_
    refine x_iconst (v := (1 : Int32)) C dX0_acceptsDigit_57 (by decide) ?_
    have s6 := And.left hok
    have hok := And.right hok
    obtain ⟨z7, hz7⟩ : ∃ y9 : Int32 × gM, y9 = f_d_goesOn z5 (1 : Int32) (1 : Int32) := ⟨_, rfl⟩
    have hf := hf.trans (g_let_eq hz7)
    have hok := g_let_p hz7 hok
    have hmz7 : gMi l yX0_goesOn wsX0_goesOn rm_d_goesOn G shR q z5 h [.ref (q 0), .int (1 : Int32), .int (1 : Int32)] z7.2 h z7.1 := by rw [hz7]; exact c_d_goesOn l G q z5 h (1 : Int32) (1 : Int32) s6
    refine x_callVi (n := 2) C hq gFr_same (hmz7) (cwV 2 C.2.2.2.2.2.1 gX0_acceptsDigit_X0_goesOn rfl rfl rfl (by decide +kernel) ⟨Nat.le_of_ble_eq_true rfl, Nat.le_of_ble_eq_true rfl⟩) rfl rfl rfl rfl (Nat.le_of_ble_eq_true rfl) dX0_acceptsDigit_58 (Nat.zero_le _) (Nat.zero_le _) ?_
    have h01 := And.left hok
    exact g_iret C hr (g_nz h01) dX0_acceptsDigit_61 (congrArg (fun z => z.1) hf).symm (congrArg (fun z => z.2) hf).symm rfl
  · have hf := hf.trans (if_neg c2)
    have hok := g_in c2 hok
    by_cases c8 : z1 = (1 : Int32)
    · have hf := hf.trans (if_pos c8)
      have hok := g_ip c8 hok
      refine x_tin (tgt := 62) C dX0_acceptsDigit_4 c8 (by decide) (by decide) rfl (by decide) ?_
      refine x_aload_n C dX0_acceptsDigit_62 rfl 0 rfl ?_
      refine x_aload_n C dX0_acceptsDigit_63 rfl 0 rfl ?_
      refine x_get (v := .int (m 0 1)) C in_X0_acceptsDigit_0 0 rfl rfl 1 (by decide) k_X0_acceptsDigit_15 rfl rfl dX0_acceptsDigit_64 ?_
      refine x_bipush (v := (10 : Int32)) C dX0_acceptsDigit_67 (by decide) ?_
      refine x_imul C dX0_acceptsDigit_69 ?_
      refine x_iload_n C dX0_acceptsDigit_70 rfl 1 rfl ?_
      refine x_iadd C dX0_acceptsDigit_71 ?_
      have s9 := And.left hok
      have hok := And.right hok
      obtain ⟨z10, hz10⟩ : ∃ y9 : Int32 × gM, y9 = f_d_acceptsFirst m (((m 0 1) * (10 : Int32)) + a1) := ⟨_, rfl⟩
      have hf := hf.trans (g_let_eq hz10)
      have hok := g_let_p hz10 hok
      have hmz10 : gMi l yX0_acceptsFirst wsX0_acceptsFirst rm_d_acceptsFirst G shR q m h [.ref (q 0), .int (((m 0 1) * (10 : Int32)) + a1)] z10.2 h z10.1 := by rw [hz10]; exact c_d_acceptsFirst l G q m h (((m 0 1) * (10 : Int32)) + a1) s9
      refine x_callVi (n := 1) C hq gFr_same (hmz10) (cwV 1 C.2.2.2.2.2.1 gX0_acceptsDigit_X0_acceptsFirst rfl rfl rfl (by decide +kernel) ⟨Nat.le_of_ble_eq_true rfl, Nat.le_of_ble_eq_true rfl⟩) rfl rfl rfl rfl (Nat.le_of_ble_eq_true rfl) dX0_acceptsDigit_72 (Nat.zero_le _) (Nat.zero_le _) ?_
      have h01 := And.left hok
      exact g_iret C hr (g_nz h01) dX0_acceptsDigit_75 (congrArg (fun z => z.1) hf).symm (congrArg (fun z => z.2) hf).symm rfl
    · have hf := hf.trans (if_neg c8)
      have hok := g_in c8 hok
      by_cases c11 : z1 = (2 : Int32)
      · have hf := hf.trans (if_pos c11)
        have hok := g_ip c11 hok
        refine x_tin (tgt := 76) C dX0_acceptsDigit_4 c11 (by decide) (by decide) rfl (by decide) ?_
        refine x_aload_n C dX0_acceptsDigit_76 rfl 0 rfl ?_
        refine x_iload_n C dX0_acceptsDigit_77 rfl 1 rfl ?_
        refine x_iload_n C dX0_acceptsDigit_78 rfl 1 rfl ?_
        refine x_aload_n C dX0_acceptsDigit_79 rfl 0 rfl ?_
        refine x_get (v := .int (m 0 1)) C in_X0_acceptsDigit_0 0 rfl rfl 1 (by decide) k_X0_acceptsDigit_15 rfl rfl dX0_acceptsDigit_80 ?_
        refine x_icmp_gt (tgt := 107) C dX0_acceptsDigit_83 (by decide) (fun c12 => ?_) (fun c12 => ?_)
        · have hf := hf.trans (if_pos c12)
          have hok := g_ip c12 hok
          refine x_iconst (v := (1 : Int32)) C dX0_acceptsDigit_107 (by decide) ?_
          refine x_goto (tgt := 112) C dX0_acceptsDigit_108 (by decide) ?_
          have s13 := And.left hok
          have hok := And.right hok
          obtain ⟨z14, hz14⟩ : ∃ y9 : Int32 × gM, y9 = f_d_acceptsLast m a1 (1 : Int32) := ⟨_, rfl⟩
          have hf := hf.trans (g_let_eq hz14)
          have hok := g_let_p hz14 hok
          have hmz14 : gMi l yX0_acceptsLast wsX0_acceptsLast rm_d_acceptsLast G shR q m h [.ref (q 0), .int a1, .int (1 : Int32)] z14.2 h z14.1 := by rw [hz14]; exact c_d_acceptsLast l G q m h a1 (1 : Int32) s13
          refine x_callVi (n := 2) C hq gFr_same (hmz14) (cwV 2 C.2.2.2.2.2.1 gX0_acceptsDigit_X0_acceptsLast rfl rfl rfl (by decide +kernel) ⟨Nat.le_of_ble_eq_true rfl, Nat.le_of_ble_eq_true rfl⟩) rfl rfl rfl rfl (Nat.le_of_ble_eq_true rfl) dX0_acceptsDigit_112 (Nat.zero_le _) (Nat.zero_le _) ?_
          have h01 := And.left hok
          exact g_iret C hr (g_nz h01) dX0_acceptsDigit_115 (congrArg (fun z => z.1) hf).symm (congrArg (fun z => z.2) hf).symm rfl
        · have hf := hf.trans (if_neg c12)
          have hok := g_in c12 hok
          refine x_iload_n C dX0_acceptsDigit_86 rfl 1 rfl ?_
          have s15 := And.left hok
          have hok := And.right hok
          refine x_callSi (n := 1) C hq (gFr_pure gs_R_0_) (c_d_mayGrow l G (g_sel [] q) (g_sel [] m) (g_sel [] h) a1 s15) (va_cwS 1 C.2.2.2.2.2.1 gX0_acceptsDigit_X0_mayGrow rfl rfl rfl (by decide +kernel) ⟨Nat.le_of_ble_eq_true rfl, Nat.le_of_ble_eq_true rfl⟩) rfl rfl (Nat.le_of_ble_eq_true rfl) dX0_acceptsDigit_87 (Nat.zero_le _) (Nat.zero_le _) ?_
          refine x_if_eq (tgt := 111) C dX0_acceptsDigit_90 (by decide) (fun c16 => ?_) (fun c16 => ?_)
          · have hf := hf.trans (if_pos c16)
            have hok := g_ip c16 hok
            refine x_iconst (v := (0 : Int32)) C dX0_acceptsDigit_111 (by decide) ?_
            have s17 := And.left hok
            have hok := And.right hok
            obtain ⟨z18, hz18⟩ : ∃ y9 : Int32 × gM, y9 = f_d_acceptsLast m a1 (0 : Int32) := ⟨_, rfl⟩
            have hf := hf.trans (g_let_eq hz18)
            have hok := g_let_p hz18 hok
            have hmz18 : gMi l yX0_acceptsLast wsX0_acceptsLast rm_d_acceptsLast G shR q m h [.ref (q 0), .int a1, .int (0 : Int32)] z18.2 h z18.1 := by rw [hz18]; exact c_d_acceptsLast l G q m h a1 (0 : Int32) s17
            refine x_callVi (n := 2) C hq gFr_same (hmz18) (cwV 2 C.2.2.2.2.2.1 gX0_acceptsDigit_X0_acceptsLast rfl rfl rfl (by decide +kernel) ⟨Nat.le_of_ble_eq_true rfl, Nat.le_of_ble_eq_true rfl⟩) rfl rfl rfl rfl (Nat.le_of_ble_eq_true rfl) dX0_acceptsDigit_112 (Nat.zero_le _) (Nat.zero_le _) ?_
            have h01 := And.left hok
            exact g_iret C hr (g_nz h01) dX0_acceptsDigit_115 (congrArg (fun z => z.1) hf).symm (congrArg (fun z => z.2) hf).symm rfl
          · have hf := hf.trans (if_neg c16)
            have hok := g_in c16 hok
            refine x_iload_n C dX0_acceptsDigit_93 rfl 1 rfl ?_
            refine x_bipush (v := (10 : Int32)) C dX0_acceptsDigit_94 (by decide) ?_
            refine x_imul C dX0_acceptsDigit_96 ?_
            refine x_bipush (v := (9 : Int32)) C dX0_acceptsDigit_97 (by decide) ?_
            refine x_iadd C dX0_acceptsDigit_99 ?_
            refine x_aload_n C dX0_acceptsDigit_100 rfl 0 rfl ?_
            refine x_get (v := .int (m 0 1)) C in_X0_acceptsDigit_0 0 rfl rfl 1 (by decide) k_X0_acceptsDigit_15 rfl rfl dX0_acceptsDigit_101 ?_
            refine x_icmp_le (tgt := 111) C dX0_acceptsDigit_104 (by decide) (fun c19 => ?_) (fun c19 => ?_)
            · have hf := hf.trans (if_pos c19)
              have hok := g_ip c19 hok
              refine x_iconst (v := (0 : Int32)) C dX0_acceptsDigit_111 (by decide) ?_
              have s20 := And.left hok
              have hok := And.right hok
              obtain ⟨z21, hz21⟩ : ∃ y9 : Int32 × gM, y9 = f_d_acceptsLast m a1 (0 : Int32) := ⟨_, rfl⟩
              have hf := hf.trans (g_let_eq hz21)
              have hok := g_let_p hz21 hok
              have hmz21 : gMi l yX0_acceptsLast wsX0_acceptsLast rm_d_acceptsLast G shR q m h [.ref (q 0), .int a1, .int (0 : Int32)] z21.2 h z21.1 := by rw [hz21]; exact c_d_acceptsLast l G q m h a1 (0 : Int32) s20
              refine x_callVi (n := 2) C hq gFr_same (hmz21) (cwV 2 C.2.2.2.2.2.1 gX0_acceptsDigit_X0_acceptsLast rfl rfl rfl (by decide +kernel) ⟨Nat.le_of_ble_eq_true rfl, Nat.le_of_ble_eq_true rfl⟩) rfl rfl rfl rfl (Nat.le_of_ble_eq_true rfl) dX0_acceptsDigit_112 (Nat.zero_le _) (Nat.zero_le _) ?_
              have h01 := And.left hok
              exact g_iret C hr (g_nz h01) dX0_acceptsDigit_115 (congrArg (fun z => z.1) hf).symm (congrArg (fun z => z.2) hf).symm rfl
            · have hf := hf.trans (if_neg c19)
              have hok := g_in c19 hok
              refine x_iconst (v := (1 : Int32)) C dX0_acceptsDigit_107 (by decide) ?_
              refine x_goto (tgt := 112) C dX0_acceptsDigit_108 (by decide) ?_
              have s22 := And.left hok
              have hok := And.right hok
              obtain ⟨z23, hz23⟩ : ∃ y9 : Int32 × gM, y9 = f_d_acceptsLast m a1 (1 : Int32) := ⟨_, rfl⟩
              have hf := hf.trans (g_let_eq hz23)
              have hok := g_let_p hz23 hok
              have hmz23 : gMi l yX0_acceptsLast wsX0_acceptsLast rm_d_acceptsLast G shR q m h [.ref (q 0), .int a1, .int (1 : Int32)] z23.2 h z23.1 := by rw [hz23]; exact c_d_acceptsLast l G q m h a1 (1 : Int32) s22
              refine x_callVi (n := 2) C hq gFr_same (hmz23) (cwV 2 C.2.2.2.2.2.1 gX0_acceptsDigit_X0_acceptsLast rfl rfl rfl (by decide +kernel) ⟨Nat.le_of_ble_eq_true rfl, Nat.le_of_ble_eq_true rfl⟩) rfl rfl rfl rfl (Nat.le_of_ble_eq_true rfl) dX0_acceptsDigit_112 (Nat.zero_le _) (Nat.zero_le _) ?_
              have h01 := And.left hok
              exact g_iret C hr (g_nz h01) dX0_acceptsDigit_115 (congrArg (fun z => z.1) hf).symm (congrArg (fun z => z.2) hf).symm rfl
      · have hf := hf.trans (if_neg c11)
        have hok := g_in c11 hok
        by_cases c24 : z1 = (3 : Int32)
        · have hf := hf.trans (if_pos c24)
          have hok := g_ip c24 hok
          refine x_tin (tgt := 116) C dX0_acceptsDigit_4 c24 (by decide) (by decide) rfl (by decide) ?_
          refine x_aload_n C dX0_acceptsDigit_116 rfl 0 rfl ?_
          refine x_aload_n C dX0_acceptsDigit_117 rfl 0 rfl ?_
          refine x_get (v := .int (m 0 2)) C in_X0_acceptsDigit_0 0 rfl rfl 2 (by decide) k_X0_acceptsDigit_18 rfl rfl dX0_acceptsDigit_118 ?_
          refine x_bipush (v := (10 : Int32)) C dX0_acceptsDigit_121 (by decide) ?_
          refine x_imul C dX0_acceptsDigit_123 ?_
          refine x_iload_n C dX0_acceptsDigit_124 rfl 1 rfl ?_
          refine x_iadd C dX0_acceptsDigit_125 ?_
          refine x_aload_n C dX0_acceptsDigit_126 rfl 0 rfl ?_
          refine x_get (v := .int (m 0 2)) C in_X0_acceptsDigit_0 0 rfl rfl 2 (by decide) k_X0_acceptsDigit_18 rfl rfl dX0_acceptsDigit_127 ?_
          have s25 := And.left hok
          have hok := And.right hok
          refine x_callSi (n := 1) C hq (gFr_pure gs_R_0_) (c_d_mayGrow l G (g_sel [] q) (g_sel [] m) (g_sel [] h) (m 0 2) s25) (va_cwS 1 C.2.2.2.2.2.1 gX0_acceptsDigit_X0_mayGrow rfl rfl rfl (by decide +kernel) ⟨Nat.le_of_ble_eq_true rfl, Nat.le_of_ble_eq_true rfl⟩) rfl rfl (Nat.le_of_ble_eq_true rfl) dX0_acceptsDigit_130 (Nat.zero_le _) (Nat.zero_le _) ?_
          refine x_if_eq (tgt := 156) C dX0_acceptsDigit_133 (by decide) (fun c26 => ?_) (fun c26 => ?_)
          · have hf := hf.trans (if_pos c26)
            have hok := g_ip c26 hok
            refine x_iconst (v := (0 : Int32)) C dX0_acceptsDigit_156 (by decide) ?_
            have s27 := And.left hok
            have hok := And.right hok
            obtain ⟨z28, hz28⟩ : ∃ y9 : Int32 × gM, y9 = f_d_acceptsLast m (((m 0 2) * (10 : Int32)) + a1) (0 : Int32) := ⟨_, rfl⟩
            have hf := hf.trans (g_let_eq hz28)
            have hok := g_let_p hz28 hok
            have hmz28 : gMi l yX0_acceptsLast wsX0_acceptsLast rm_d_acceptsLast G shR q m h [.ref (q 0), .int (((m 0 2) * (10 : Int32)) + a1), .int (0 : Int32)] z28.2 h z28.1 := by rw [hz28]; exact c_d_acceptsLast l G q m h (((m 0 2) * (10 : Int32)) + a1) (0 : Int32) s27
            refine x_callVi (n := 2) C hq gFr_same (hmz28) (cwV 2 C.2.2.2.2.2.1 gX0_acceptsDigit_X0_acceptsLast rfl rfl rfl (by decide +kernel) ⟨Nat.le_of_ble_eq_true rfl, Nat.le_of_ble_eq_true rfl⟩) rfl rfl rfl rfl (Nat.le_of_ble_eq_true rfl) dX0_acceptsDigit_157 (Nat.zero_le _) (Nat.zero_le _) ?_
            have h01 := And.left hok
            exact g_iret C hr (g_nz h01) dX0_acceptsDigit_160 (congrArg (fun z => z.1) hf).symm (congrArg (fun z => z.2) hf).symm rfl
          · have hf := hf.trans (if_neg c26)
            have hok := g_in c26 hok
            refine x_aload_n C dX0_acceptsDigit_136 rfl 0 rfl ?_
            refine x_get (v := .int (m 0 2)) C in_X0_acceptsDigit_0 0 rfl rfl 2 (by decide) k_X0_acceptsDigit_18 rfl rfl dX0_acceptsDigit_137 ?_
            refine x_bipush (v := (10 : Int32)) C dX0_acceptsDigit_140 (by decide) ?_
            refine x_imul C dX0_acceptsDigit_142 ?_
            refine x_iload_n C dX0_acceptsDigit_143 rfl 1 rfl ?_
            refine x_iadd C dX0_acceptsDigit_144 ?_
            refine x_aload_n C dX0_acceptsDigit_145 rfl 0 rfl ?_
            refine x_get (v := .int (m 0 1)) C in_X0_acceptsDigit_0 0 rfl rfl 1 (by decide) k_X0_acceptsDigit_15 rfl rfl dX0_acceptsDigit_146 ?_
            refine x_icmp_le (tgt := 156) C dX0_acceptsDigit_149 (by decide) (fun c29 => ?_) (fun c29 => ?_)
            · have hf := hf.trans (if_pos c29)
              have hok := g_ip c29 hok
              refine x_iconst (v := (0 : Int32)) C dX0_acceptsDigit_156 (by decide) ?_
              have s30 := And.left hok
              have hok := And.right hok
              obtain ⟨z31, hz31⟩ : ∃ y9 : Int32 × gM, y9 = f_d_acceptsLast m (((m 0 2) * (10 : Int32)) + a1) (0 : Int32) := ⟨_, rfl⟩
              have hf := hf.trans (g_let_eq hz31)
              have hok := g_let_p hz31 hok
              have hmz31 : gMi l yX0_acceptsLast wsX0_acceptsLast rm_d_acceptsLast G shR q m h [.ref (q 0), .int (((m 0 2) * (10 : Int32)) + a1), .int (0 : Int32)] z31.2 h z31.1 := by rw [hz31]; exact c_d_acceptsLast l G q m h (((m 0 2) * (10 : Int32)) + a1) (0 : Int32) s30
              refine x_callVi (n := 2) C hq gFr_same (hmz31) (cwV 2 C.2.2.2.2.2.1 gX0_acceptsDigit_X0_acceptsLast rfl rfl rfl (by decide +kernel) ⟨Nat.le_of_ble_eq_true rfl, Nat.le_of_ble_eq_true rfl⟩) rfl rfl rfl rfl (Nat.le_of_ble_eq_true rfl) dX0_acceptsDigit_157 (Nat.zero_le _) (Nat.zero_le _) ?_
              have h01 := And.left hok
              exact g_iret C hr (g_nz h01) dX0_acceptsDigit_160 (congrArg (fun z => z.1) hf).symm (congrArg (fun z => z.2) hf).symm rfl
            · have hf := hf.trans (if_neg c29)
              have hok := g_in c29 hok
              refine x_iconst (v := (1 : Int32)) C dX0_acceptsDigit_152 (by decide) ?_
              refine x_goto (tgt := 157) C dX0_acceptsDigit_153 (by decide) ?_
              have s32 := And.left hok
              have hok := And.right hok
              obtain ⟨z33, hz33⟩ : ∃ y9 : Int32 × gM, y9 = f_d_acceptsLast m (((m 0 2) * (10 : Int32)) + a1) (1 : Int32) := ⟨_, rfl⟩
              have hf := hf.trans (g_let_eq hz33)
              have hok := g_let_p hz33 hok
              have hmz33 : gMi l yX0_acceptsLast wsX0_acceptsLast rm_d_acceptsLast G shR q m h [.ref (q 0), .int (((m 0 2) * (10 : Int32)) + a1), .int (1 : Int32)] z33.2 h z33.1 := by rw [hz33]; exact c_d_acceptsLast l G q m h (((m 0 2) * (10 : Int32)) + a1) (1 : Int32) s32
              refine x_callVi (n := 2) C hq gFr_same (hmz33) (cwV 2 C.2.2.2.2.2.1 gX0_acceptsDigit_X0_acceptsLast rfl rfl rfl (by decide +kernel) ⟨Nat.le_of_ble_eq_true rfl, Nat.le_of_ble_eq_true rfl⟩) rfl rfl rfl rfl (Nat.le_of_ble_eq_true rfl) dX0_acceptsDigit_157 (Nat.zero_le _) (Nat.zero_le _) ?_
              have h01 := And.left hok
              exact g_iret C hr (g_nz h01) dX0_acceptsDigit_160 (congrArg (fun z => z.1) hf).symm (congrArg (fun z => z.2) hf).symm rfl
        · have hf := hf.trans (if_neg c24)
          have hok := g_in c24 hok
          by_cases c34 : z1 = (4 : Int32)
          · have hf := hf.trans (if_pos c34)
            have hok := g_ip c34 hok
            refine x_tin (tgt := 161) C dX0_acceptsDigit_4 c34 (by decide) (by decide) rfl (by decide) ?_
            refine x_aload_n C dX0_acceptsDigit_161 rfl 0 rfl ?_
            refine x_iload_n C dX0_acceptsDigit_162 rfl 1 rfl ?_
            have s35 := And.left hok
            have hok := And.right hok
            obtain ⟨z36, hz36⟩ : ∃ y9 : Int32 × gM, y9 = f_d_acceptsHint m a1 := ⟨_, rfl⟩
            have hf := hf.trans (g_let_eq hz36)
            have hok := g_let_p hz36 hok
            have hmz36 : gMi l yX0_acceptsHint wsX0_acceptsHint rm_d_acceptsHint G shR q m h [.ref (q 0), .int a1] z36.2 h z36.1 := by rw [hz36]; exact c_d_acceptsHint l G q m h a1 s35
            refine x_callVi (n := 1) C hq gFr_same (hmz36) (cwV 1 C.2.2.2.2.2.1 gX0_acceptsDigit_X0_acceptsHint rfl rfl rfl (by decide +kernel) ⟨Nat.le_of_ble_eq_true rfl, Nat.le_of_ble_eq_true rfl⟩) rfl rfl rfl rfl (Nat.le_of_ble_eq_true rfl) dX0_acceptsDigit_163 (Nat.zero_le _) (Nat.zero_le _) ?_
            have h01 := And.left hok
            exact g_iret C hr (g_nz h01) dX0_acceptsDigit_166 (congrArg (fun z => z.1) hf).symm (congrArg (fun z => z.2) hf).symm rfl
          · have hf := hf.trans (if_neg c34)
            have hok := g_in c34 hok
            refine x_tout (tgt := 167) C dX0_acceptsDigit_4 (by have wc2 := lv_neT (a := 0) c2 rfl; have wc8 := lv_neT (a := 1) c8 rfl; have wc11 := lv_neT (a := 2) c11 rfl; have wc24 := lv_neT (a := 3) c24 rfl; have wc34 := lv_neT (a := 4) c34 rfl; omega) (by decide) ?_
            refine x_iconst (v := (0 : Int32)) C dX0_acceptsDigit_167 (by decide) ?_
            exact g_iret C hr (g_nz (Or.inl rfl)) dX0_acceptsDigit_168 (congrArg (fun z => z.1) hf).symm (congrArg (fun z => z.2) hf).symm rfl
set_option maxRecDepth 20000 in
theorem in_X0_accepts_0 : ∀ w ∈ u_ws RX0 TX0 4, w ∈ wsX0_accepts := by decide +kernel
set_option maxRecDepth 20000 in
theorem k_X0_accepts_11 : Cond.fieldLink RX0 11 "HintedPages$Reader" "behind" "I" ∈ wsX0_accepts := by decide +kernel
set_option maxRecDepth 20000 in
theorem k_X0_accepts_15 : Cond.fieldLink RX0 15 "HintedPages$Reader" "first" "I" ∈ wsX0_accepts := by decide +kernel
abbrev rm_d_accepts : Room := { frames := 3, cells := 0, slots := 0, locals := 65 }
noncomputable def f_d_accepts (m : gM) (a1 : Int32) : Int32 × gM := (if a1 < (48 : Int32) then (if a1 = (45 : Int32) then (if (m 0 0) = (1 : Int32) then (if (39 : Int32) ≤ (m 0 1) then g_let (f_d_goesOn m (0 : Int32) (2 : Int32)) (fun z8 : Int32 × gM => (z8.1, z8.2)) else g_let (f_d_goesOn m (1 : Int32) (2 : Int32)) (fun z10 : Int32 × gM => (z10.1, z10.2))) else g_let (f_d_goesOn m (0 : Int32) (2 : Int32)) (fun z5 : Int32 × gM => (z5.1, z5.2))) else (if a1 = (59 : Int32) then g_let (f_d_goesOn m (f_d_isPartWhole m) (0 : Int32)) (fun z14 : Int32 × gM => (z14.1, z14.2)) else (if a1 = (104 : Int32) then (if (f_d_isPartWhole m) = 0 then g_let (f_d_goesOn m (0 : Int32) (4 : Int32)) (fun z19 : Int32 × gM => (z19.1, z19.2)) else (if (m 0 0) = (5 : Int32) then g_let (f_d_goesOn m (0 : Int32) (4 : Int32)) (fun z22 : Int32 × gM => (z22.1, z22.2)) else g_let (f_d_goesOn m (1 : Int32) (4 : Int32)) (fun z24 : Int32 × gM => (z24.1, z24.2)))) else ((0 : Int32), m)))) else (if (57 : Int32) < a1 then (if a1 = (45 : Int32) then (if (m 0 0) = (1 : Int32) then (if (39 : Int32) ≤ (m 0 1) then g_let (f_d_goesOn m (0 : Int32) (2 : Int32)) (fun z32 : Int32 × gM => (z32.1, z32.2)) else g_let (f_d_goesOn m (1 : Int32) (2 : Int32)) (fun z34 : Int32 × gM => (z34.1, z34.2))) else g_let (f_d_goesOn m (0 : Int32) (2 : Int32)) (fun z29 : Int32 × gM => (z29.1, z29.2))) else (if a1 = (59 : Int32) then g_let (f_d_goesOn m (f_d_isPartWhole m) (0 : Int32)) (fun z38 : Int32 × gM => (z38.1, z38.2)) else (if a1 = (104 : Int32) then (if (f_d_isPartWhole m) = 0 then g_let (f_d_goesOn m (0 : Int32) (4 : Int32)) (fun z43 : Int32 × gM => (z43.1, z43.2)) else (if (m 0 0) = (5 : Int32) then g_let (f_d_goesOn m (0 : Int32) (4 : Int32)) (fun z46 : Int32 × gM => (z46.1, z46.2)) else g_let (f_d_goesOn m (1 : Int32) (4 : Int32)) (fun z48 : Int32 × gM => (z48.1, z48.2)))) else ((0 : Int32), m)))) else g_let (f_d_acceptsDigit m (a1 - (48 : Int32))) (fun z50 : Int32 × gM => (z50.1, z50.2))))
noncomputable def o_d_accepts (m : gM) (a1 : Int32) : Prop := (if a1 < (48 : Int32) then (if a1 = (45 : Int32) then (if (m 0 0) = (1 : Int32) then (if (39 : Int32) ≤ (m 0 1) then (o_d_goesOn m (0 : Int32) (2 : Int32)) ∧ (g_let (f_d_goesOn m (0 : Int32) (2 : Int32)) (fun z8 : Int32 × gM => (z8.1 = 0 ∨ z8.1 = 1) ∧ True)) else (o_d_goesOn m (1 : Int32) (2 : Int32)) ∧ (g_let (f_d_goesOn m (1 : Int32) (2 : Int32)) (fun z10 : Int32 × gM => (z10.1 = 0 ∨ z10.1 = 1) ∧ True))) else (o_d_goesOn m (0 : Int32) (2 : Int32)) ∧ (g_let (f_d_goesOn m (0 : Int32) (2 : Int32)) (fun z5 : Int32 × gM => (z5.1 = 0 ∨ z5.1 = 1) ∧ True))) else (if a1 = (59 : Int32) then (o_d_isPartWhole m) ∧ ((o_d_goesOn m (f_d_isPartWhole m) (0 : Int32)) ∧ (g_let (f_d_goesOn m (f_d_isPartWhole m) (0 : Int32)) (fun z14 : Int32 × gM => (z14.1 = 0 ∨ z14.1 = 1) ∧ True))) else (if a1 = (104 : Int32) then (o_d_isPartWhole m) ∧ ((if (f_d_isPartWhole m) = 0 then (o_d_goesOn m (0 : Int32) (4 : Int32)) ∧ (g_let (f_d_goesOn m (0 : Int32) (4 : Int32)) (fun z19 : Int32 × gM => (z19.1 = 0 ∨ z19.1 = 1) ∧ True)) else (if (m 0 0) = (5 : Int32) then (o_d_goesOn m (0 : Int32) (4 : Int32)) ∧ (g_let (f_d_goesOn m (0 : Int32) (4 : Int32)) (fun z22 : Int32 × gM => (z22.1 = 0 ∨ z22.1 = 1) ∧ True)) else (o_d_goesOn m (1 : Int32) (4 : Int32)) ∧ (g_let (f_d_goesOn m (1 : Int32) (4 : Int32)) (fun z24 : Int32 × gM => (z24.1 = 0 ∨ z24.1 = 1) ∧ True))))) else True))) else (if (57 : Int32) < a1 then (if a1 = (45 : Int32) then (if (m 0 0) = (1 : Int32) then (if (39 : Int32) ≤ (m 0 1) then (o_d_goesOn m (0 : Int32) (2 : Int32)) ∧ (g_let (f_d_goesOn m (0 : Int32) (2 : Int32)) (fun z32 : Int32 × gM => (z32.1 = 0 ∨ z32.1 = 1) ∧ True)) else (o_d_goesOn m (1 : Int32) (2 : Int32)) ∧ (g_let (f_d_goesOn m (1 : Int32) (2 : Int32)) (fun z34 : Int32 × gM => (z34.1 = 0 ∨ z34.1 = 1) ∧ True))) else (o_d_goesOn m (0 : Int32) (2 : Int32)) ∧ (g_let (f_d_goesOn m (0 : Int32) (2 : Int32)) (fun z29 : Int32 × gM => (z29.1 = 0 ∨ z29.1 = 1) ∧ True))) else (if a1 = (59 : Int32) then (o_d_isPartWhole m) ∧ ((o_d_goesOn m (f_d_isPartWhole m) (0 : Int32)) ∧ (g_let (f_d_goesOn m (f_d_isPartWhole m) (0 : Int32)) (fun z38 : Int32 × gM => (z38.1 = 0 ∨ z38.1 = 1) ∧ True))) else (if a1 = (104 : Int32) then (o_d_isPartWhole m) ∧ ((if (f_d_isPartWhole m) = 0 then (o_d_goesOn m (0 : Int32) (4 : Int32)) ∧ (g_let (f_d_goesOn m (0 : Int32) (4 : Int32)) (fun z43 : Int32 × gM => (z43.1 = 0 ∨ z43.1 = 1) ∧ True)) else (if (m 0 0) = (5 : Int32) then (o_d_goesOn m (0 : Int32) (4 : Int32)) ∧ (g_let (f_d_goesOn m (0 : Int32) (4 : Int32)) (fun z46 : Int32 × gM => (z46.1 = 0 ∨ z46.1 = 1) ∧ True)) else (o_d_goesOn m (1 : Int32) (4 : Int32)) ∧ (g_let (f_d_goesOn m (1 : Int32) (4 : Int32)) (fun z48 : Int32 × gM => (z48.1 = 0 ∨ z48.1 = 1) ∧ True))))) else True))) else (o_d_acceptsDigit m (a1 - (48 : Int32))) ∧ (g_let (f_d_acceptsDigit m (a1 - (48 : Int32))) (fun z50 : Int32 × gM => (z50.1 = 0 ∨ z50.1 = 1) ∧ True))))
set_option maxRecDepth 100000 in
set_option maxHeartbeats 4000000 in
theorem c_d_accepts (l : Launch) (G : gG) (q : Nat → Nat) (m : gM) (h : gN) (a1 : Int32) (hok : o_d_accepts m a1) : gMi l yX0_accepts wsX0_accepts rm_d_accepts G shR q m h [.ref (q 0), .int a1] ((f_d_accepts m a1).2) h ((f_d_accepts m a1).1) := by
  intro sz
  refine g_met (cc := cX0_accepts) (maxL := 2) (ret := (some .boolean)) (own := RX0) (Qc := fun sz => gQi G shR q ((f_d_accepts m a1).2) h sz ((f_d_accepts m a1).1)) (by decide) rfl rfl (Nat.le_of_ble_eq_true rfl) (fun p e s m9 below meth c C hq hr => ?_)
  refine x_lv (lv' := [(0, .ref (q 0)), (1, .int a1)]) [0, 1] rfl ?_
  have hf := f_d_accepts.eq_1 m a1
  have hok := Eq.mp (o_d_accepts.eq_1 m a1) hok
  refine x_iload_n C dX0_accepts_0 rfl 1 rfl ?_
  refine x_bipush (v := (48 : Int32)) C dX0_accepts_1 (by decide) ?_
  refine x_icmp_lt (tgt := 21) C dX0_accepts_3 (by decide) (fun c1 => ?_) (fun c1 => ?_)
  · have hf := hf.trans (if_pos c1)
    have hok := g_ip c1 hok
    refine x_iload_n C dX0_accepts_21 rfl 1 rfl ?_
    by_cases c2 : a1 = (45 : Int32)
    · have hf := hf.trans (if_pos c2)
      have hok := g_ip c2 hok
      refine x_look (tgt := 56) (off := 34) C dX0_accepts_22 rfl (by rw [c2]; rfl) (by decide) ?_
      refine x_aload_n C dX0_accepts_56 rfl 0 rfl ?_
      refine x_aload_n C dX0_accepts_57 rfl 0 rfl ?_
      refine x_get (v := .int (m 0 0)) C in_X0_accepts_0 0 rfl rfl 0 (by decide) k_X0_accepts_11 rfl rfl dX0_accepts_58 ?_
      refine x_iconst (v := (1 : Int32)) C dX0_accepts_61 (by decide) ?_
      refine x_icmp_ne (tgt := 78) C dX0_accepts_62 (by decide) (fun c3 => ?_) (fun c3 => ?_)
      · have hf := hf.trans (if_neg c3)
        have hok := g_in c3 hok
        refine x_iconst (v := (0 : Int32)) C dX0_accepts_78 (by decide) ?_
        refine x_iconst (v := (2 : Int32)) C dX0_accepts_79 (by decide) ?_
        have s4 := And.left hok
        have hok := And.right hok
        obtain ⟨z5, hz5⟩ : ∃ y9 : Int32 × gM, y9 = f_d_goesOn m (0 : Int32) (2 : Int32) := ⟨_, rfl⟩
        have hf := hf.trans (g_let_eq hz5)
        have hok := g_let_p hz5 hok
        have hmz5 : gMi l yX0_goesOn wsX0_goesOn rm_d_goesOn G shR q m h [.ref (q 0), .int (0 : Int32), .int (2 : Int32)] z5.2 h z5.1 := by rw [hz5]; exact c_d_goesOn l G q m h (0 : Int32) (2 : Int32) s4
        refine x_callVi (n := 2) C hq gFr_same (hmz5) (cwV 2 C.2.2.2.2.2.1 gX0_accepts_X0_goesOn rfl rfl rfl (by decide +kernel) ⟨Nat.le_of_ble_eq_true rfl, Nat.le_of_ble_eq_true rfl⟩) rfl rfl rfl rfl (Nat.le_of_ble_eq_true rfl) dX0_accepts_80 (Nat.zero_le _) (Nat.zero_le _) ?_
        have h01 := And.left hok
        exact g_iret C hr (g_nz h01) dX0_accepts_83 (congrArg (fun z => z.1) hf).symm (congrArg (fun z => z.2) hf).symm rfl
      · have hf := hf.trans (if_pos c3)
        have hok := g_ip c3 hok
        refine x_aload_n C dX0_accepts_65 rfl 0 rfl ?_
        refine x_get (v := .int (m 0 1)) C in_X0_accepts_0 0 rfl rfl 1 (by decide) k_X0_accepts_15 rfl rfl dX0_accepts_66 ?_
        refine x_bipush (v := (39 : Int32)) C dX0_accepts_69 (by decide) ?_
        refine x_icmp_ge (tgt := 78) C dX0_accepts_71 (by decide) (fun c6 => ?_) (fun c6 => ?_)
        · have hf := hf.trans (if_pos c6)
          have hok := g_ip c6 hok
          refine x_iconst (v := (0 : Int32)) C dX0_accepts_78 (by decide) ?_
          refine x_iconst (v := (2 : Int32)) C dX0_accepts_79 (by decide) ?_
          have s7 := And.left hok
          have hok := And.right hok
          obtain ⟨z8, hz8⟩ : ∃ y9 : Int32 × gM, y9 = f_d_goesOn m (0 : Int32) (2 : Int32) := ⟨_, rfl⟩
          have hf := hf.trans (g_let_eq hz8)
          have hok := g_let_p hz8 hok
          have hmz8 : gMi l yX0_goesOn wsX0_goesOn rm_d_goesOn G shR q m h [.ref (q 0), .int (0 : Int32), .int (2 : Int32)] z8.2 h z8.1 := by rw [hz8]; exact c_d_goesOn l G q m h (0 : Int32) (2 : Int32) s7
          refine x_callVi (n := 2) C hq gFr_same (hmz8) (cwV 2 C.2.2.2.2.2.1 gX0_accepts_X0_goesOn rfl rfl rfl (by decide +kernel) ⟨Nat.le_of_ble_eq_true rfl, Nat.le_of_ble_eq_true rfl⟩) rfl rfl rfl rfl (Nat.le_of_ble_eq_true rfl) dX0_accepts_80 (Nat.zero_le _) (Nat.zero_le _) ?_
          have h01 := And.left hok
          exact g_iret C hr (g_nz h01) dX0_accepts_83 (congrArg (fun z => z.1) hf).symm (congrArg (fun z => z.2) hf).symm rfl
        · have hf := hf.trans (if_neg c6)
          have hok := g_in c6 hok
          refine x_iconst (v := (1 : Int32)) C dX0_accepts_74 (by decide) ?_
          refine x_goto (tgt := 79) C dX0_accepts_75 (by decide) ?_
          refine x_iconst (v := (2 : Int32)) C dX0_accepts_79 (by decide) ?_
          have s9 := And.left hok
          have hok := And.right hok
          obtain ⟨z10, hz10⟩ : ∃ y9 : Int32 × gM, y9 = f_d_goesOn m (1 : Int32) (2 : Int32) := ⟨_, rfl⟩
          have hf := hf.trans (g_let_eq hz10)
          have hok := g_let_p hz10 hok
          have hmz10 : gMi l yX0_goesOn wsX0_goesOn rm_d_goesOn G shR q m h [.ref (q 0), .int (1 : Int32), .int (2 : Int32)] z10.2 h z10.1 := by rw [hz10]; exact c_d_goesOn l G q m h (1 : Int32) (2 : Int32) s9
          refine x_callVi (n := 2) C hq gFr_same (hmz10) (cwV 2 C.2.2.2.2.2.1 gX0_accepts_X0_goesOn rfl rfl rfl (by decide +kernel) ⟨Nat.le_of_ble_eq_true rfl, Nat.le_of_ble_eq_true rfl⟩) rfl rfl rfl rfl (Nat.le_of_ble_eq_true rfl) dX0_accepts_80 (Nat.zero_le _) (Nat.zero_le _) ?_
          have h01 := And.left hok
          exact g_iret C hr (g_nz h01) dX0_accepts_83 (congrArg (fun z => z.1) hf).symm (congrArg (fun z => z.2) hf).symm rfl
    · have hf := hf.trans (if_neg c2)
      have hok := g_in c2 hok
      by_cases c11 : a1 = (59 : Int32)
      · have hf := hf.trans (if_pos c11)
        have hok := g_ip c11 hok
        refine x_look (tgt := 110) (off := 88) C dX0_accepts_22 rfl (by rw [c11]; rfl) (by decide) ?_
        refine x_aload_n C dX0_accepts_110 rfl 0 rfl ?_
        refine x_aload_n C dX0_accepts_111 rfl 0 rfl ?_
        have s12 := And.left hok
        have hok := And.right hok
        refine x_callVi (n := 0) C hq gFr_same (c_d_isPartWhole l G q m h s12) (cwV 0 C.2.2.2.2.2.1 gX0_accepts_X0_isPartWhole rfl rfl rfl (by decide +kernel) ⟨Nat.le_of_ble_eq_true rfl, Nat.le_of_ble_eq_true rfl⟩) rfl rfl rfl rfl (Nat.le_of_ble_eq_true rfl) dX0_accepts_112 (Nat.zero_le _) (Nat.zero_le _) ?_
        refine x_iconst (v := (0 : Int32)) C dX0_accepts_115 (by decide) ?_
        have s13 := And.left hok
        have hok := And.right hok
        obtain ⟨z14, hz14⟩ : ∃ y9 : Int32 × gM, y9 = f_d_goesOn m (f_d_isPartWhole m) (0 : Int32) := ⟨_, rfl⟩
        have hf := hf.trans (g_let_eq hz14)
        have hok := g_let_p hz14 hok
        have hmz14 : gMi l yX0_goesOn wsX0_goesOn rm_d_goesOn G shR q m h [.ref (q 0), .int (f_d_isPartWhole m), .int (0 : Int32)] z14.2 h z14.1 := by rw [hz14]; exact c_d_goesOn l G q m h (f_d_isPartWhole m) (0 : Int32) s13
        refine x_callVi (n := 2) C hq gFr_same (hmz14) (cwV 2 C.2.2.2.2.2.1 gX0_accepts_X0_goesOn rfl rfl rfl (by decide +kernel) ⟨Nat.le_of_ble_eq_true rfl, Nat.le_of_ble_eq_true rfl⟩) rfl rfl rfl rfl (Nat.le_of_ble_eq_true rfl) dX0_accepts_116 (Nat.zero_le _) (Nat.zero_le _) ?_
        have h01 := And.left hok
        exact g_iret C hr (g_nz h01) dX0_accepts_119 (congrArg (fun z => z.1) hf).symm (congrArg (fun z => z.2) hf).symm rfl
      · have hf := hf.trans (if_neg c11)
        have hok := g_in c11 hok
        by_cases c15 : a1 = (104 : Int32)
        · have hf := hf.trans (if_pos c15)
          have hok := g_ip c15 hok
          refine x_look (tgt := 84) (off := 62) C dX0_accepts_22 rfl (by rw [c15]; rfl) (by decide) ?_
          refine x_aload_n C dX0_accepts_84 rfl 0 rfl ?_
          refine x_aload_n C dX0_accepts_85 rfl 0 rfl ?_
          have s16 := And.left hok
          have hok := And.right hok
          refine x_callVi (n := 0) C hq gFr_same (c_d_isPartWhole l G q m h s16) (cwV 0 C.2.2.2.2.2.1 gX0_accepts_X0_isPartWhole rfl rfl rfl (by decide +kernel) ⟨Nat.le_of_ble_eq_true rfl, Nat.le_of_ble_eq_true rfl⟩) rfl rfl rfl rfl (Nat.le_of_ble_eq_true rfl) dX0_accepts_86 (Nat.zero_le _) (Nat.zero_le _) ?_
          refine x_if_eq (tgt := 104) C dX0_accepts_89 (by decide) (fun c17 => ?_) (fun c17 => ?_)
          · have hf := hf.trans (if_pos c17)
            have hok := g_ip c17 hok
            refine x_iconst (v := (0 : Int32)) C dX0_accepts_104 (by decide) ?_
            refine x_iconst (v := (4 : Int32)) C dX0_accepts_105 (by decide) ?_
            have s18 := And.left hok
            have hok := And.right hok
            obtain ⟨z19, hz19⟩ : ∃ y9 : Int32 × gM, y9 = f_d_goesOn m (0 : Int32) (4 : Int32) := ⟨_, rfl⟩
            have hf := hf.trans (g_let_eq hz19)
            have hok := g_let_p hz19 hok
            have hmz19 : gMi l yX0_goesOn wsX0_goesOn rm_d_goesOn G shR q m h [.ref (q 0), .int (0 : Int32), .int (4 : Int32)] z19.2 h z19.1 := by rw [hz19]; exact c_d_goesOn l G q m h (0 : Int32) (4 : Int32) s18
            refine x_callVi (n := 2) C hq gFr_same (hmz19) (cwV 2 C.2.2.2.2.2.1 gX0_accepts_X0_goesOn rfl rfl rfl (by decide +kernel) ⟨Nat.le_of_ble_eq_true rfl, Nat.le_of_ble_eq_true rfl⟩) rfl rfl rfl rfl (Nat.le_of_ble_eq_true rfl) dX0_accepts_106 (Nat.zero_le _) (Nat.zero_le _) ?_
            have h01 := And.left hok
            exact g_iret C hr (g_nz h01) dX0_accepts_109 (congrArg (fun z => z.1) hf).symm (congrArg (fun z => z.2) hf).symm rfl
          · have hf := hf.trans (if_neg c17)
            have hok := g_in c17 hok
            refine x_aload_n C dX0_accepts_92 rfl 0 rfl ?_
            refine x_get (v := .int (m 0 0)) C in_X0_accepts_0 0 rfl rfl 0 (by decide) k_X0_accepts_11 rfl rfl dX0_accepts_93 ?_
            refine x_iconst (v := (5 : Int32)) C dX0_accepts_96 (by decide) ?_
            refine x_icmp_eq (tgt := 104) C dX0_accepts_97 (by decide) (fun c20 => ?_) (fun c20 => ?_)
            · have hf := hf.trans (if_pos c20)
              have hok := g_ip c20 hok
              refine x_iconst (v := (0 : Int32)) C dX0_accepts_104 (by decide) ?_
              refine x_iconst (v := (4 : Int32)) C dX0_accepts_105 (by decide) ?_
              have s21 := And.left hok
              have hok := And.right hok
              obtain ⟨z22, hz22⟩ : ∃ y9 : Int32 × gM, y9 = f_d_goesOn m (0 : Int32) (4 : Int32) := ⟨_, rfl⟩
              have hf := hf.trans (g_let_eq hz22)
              have hok := g_let_p hz22 hok
              have hmz22 : gMi l yX0_goesOn wsX0_goesOn rm_d_goesOn G shR q m h [.ref (q 0), .int (0 : Int32), .int (4 : Int32)] z22.2 h z22.1 := by rw [hz22]; exact c_d_goesOn l G q m h (0 : Int32) (4 : Int32) s21
              refine x_callVi (n := 2) C hq gFr_same (hmz22) (cwV 2 C.2.2.2.2.2.1 gX0_accepts_X0_goesOn rfl rfl rfl (by decide +kernel) ⟨Nat.le_of_ble_eq_true rfl, Nat.le_of_ble_eq_true rfl⟩) rfl rfl rfl rfl (Nat.le_of_ble_eq_true rfl) dX0_accepts_106 (Nat.zero_le _) (Nat.zero_le _) ?_
              have h01 := And.left hok
              exact g_iret C hr (g_nz h01) dX0_accepts_109 (congrArg (fun z => z.1) hf).symm (congrArg (fun z => z.2) hf).symm rfl
            · have hf := hf.trans (if_neg c20)
              have hok := g_in c20 hok
              refine x_iconst (v := (1 : Int32)) C dX0_accepts_100 (by decide) ?_
              refine x_goto (tgt := 105) C dX0_accepts_101 (by decide) ?_
              refine x_iconst (v := (4 : Int32)) C dX0_accepts_105 (by decide) ?_
              have s23 := And.left hok
              have hok := And.right hok
              obtain ⟨z24, hz24⟩ : ∃ y9 : Int32 × gM, y9 = f_d_goesOn m (1 : Int32) (4 : Int32) := ⟨_, rfl⟩
              have hf := hf.trans (g_let_eq hz24)
              have hok := g_let_p hz24 hok
              have hmz24 : gMi l yX0_goesOn wsX0_goesOn rm_d_goesOn G shR q m h [.ref (q 0), .int (1 : Int32), .int (4 : Int32)] z24.2 h z24.1 := by rw [hz24]; exact c_d_goesOn l G q m h (1 : Int32) (4 : Int32) s23
              refine x_callVi (n := 2) C hq gFr_same (hmz24) (cwV 2 C.2.2.2.2.2.1 gX0_accepts_X0_goesOn rfl rfl rfl (by decide +kernel) ⟨Nat.le_of_ble_eq_true rfl, Nat.le_of_ble_eq_true rfl⟩) rfl rfl rfl rfl (Nat.le_of_ble_eq_true rfl) dX0_accepts_106 (Nat.zero_le _) (Nat.zero_le _) ?_
              have h01 := And.left hok
              exact g_iret C hr (g_nz h01) dX0_accepts_109 (congrArg (fun z => z.1) hf).symm (congrArg (fun z => z.2) hf).symm rfl
        · have hf := hf.trans (if_neg c15)
          have hok := g_in c15 hok
          refine x_look (tgt := 120) (off := 98) C dX0_accepts_22 rfl (by show Op.lookupswitch.offset [((45 : Int), (34 : Int)), ((59 : Int), (88 : Int)), ((104 : Int), (62 : Int))] _ _ = _; rw [lv_osw (a := 45) c2 rfl, lv_osw (a := 59) c11 rfl, lv_osw (a := 104) c15 rfl]; rfl) (by decide) ?_
          refine x_iconst (v := (0 : Int32)) C dX0_accepts_120 (by decide) ?_
          exact g_iret C hr (g_nz (Or.inl rfl)) dX0_accepts_121 (congrArg (fun z => z.1) hf).symm (congrArg (fun z => z.2) hf).symm rfl
  · have hf := hf.trans (if_neg c1)
    have hok := g_in c1 hok
    refine x_iload_n C dX0_accepts_6 rfl 1 rfl ?_
    refine x_bipush (v := (57 : Int32)) C dX0_accepts_7 (by decide) ?_
    refine x_icmp_gt (tgt := 21) C dX0_accepts_9 (by decide) (fun c25 => ?_) (fun c25 => ?_)
    · have hf := hf.trans (if_pos c25)
      have hok := g_ip c25 hok
      refine x_iload_n C dX0_accepts_21 rfl 1 rfl ?_
      by_cases c26 : a1 = (45 : Int32)
      · have hf := hf.trans (if_pos c26)
        have hok := g_ip c26 hok
        refine x_look (tgt := 56) (off := 34) C dX0_accepts_22 rfl (by rw [c26]; rfl) (by decide) ?_
        refine x_aload_n C dX0_accepts_56 rfl 0 rfl ?_
        refine x_aload_n C dX0_accepts_57 rfl 0 rfl ?_
        refine x_get (v := .int (m 0 0)) C in_X0_accepts_0 0 rfl rfl 0 (by decide) k_X0_accepts_11 rfl rfl dX0_accepts_58 ?_
        refine x_iconst (v := (1 : Int32)) C dX0_accepts_61 (by decide) ?_
        refine x_icmp_ne (tgt := 78) C dX0_accepts_62 (by decide) (fun c27 => ?_) (fun c27 => ?_)
        · have hf := hf.trans (if_neg c27)
          have hok := g_in c27 hok
          refine x_iconst (v := (0 : Int32)) C dX0_accepts_78 (by decide) ?_
          refine x_iconst (v := (2 : Int32)) C dX0_accepts_79 (by decide) ?_
          have s28 := And.left hok
          have hok := And.right hok
          obtain ⟨z29, hz29⟩ : ∃ y9 : Int32 × gM, y9 = f_d_goesOn m (0 : Int32) (2 : Int32) := ⟨_, rfl⟩
          have hf := hf.trans (g_let_eq hz29)
          have hok := g_let_p hz29 hok
          have hmz29 : gMi l yX0_goesOn wsX0_goesOn rm_d_goesOn G shR q m h [.ref (q 0), .int (0 : Int32), .int (2 : Int32)] z29.2 h z29.1 := by rw [hz29]; exact c_d_goesOn l G q m h (0 : Int32) (2 : Int32) s28
          refine x_callVi (n := 2) C hq gFr_same (hmz29) (cwV 2 C.2.2.2.2.2.1 gX0_accepts_X0_goesOn rfl rfl rfl (by decide +kernel) ⟨Nat.le_of_ble_eq_true rfl, Nat.le_of_ble_eq_true rfl⟩) rfl rfl rfl rfl (Nat.le_of_ble_eq_true rfl) dX0_accepts_80 (Nat.zero_le _) (Nat.zero_le _) ?_
          have h01 := And.left hok
          exact g_iret C hr (g_nz h01) dX0_accepts_83 (congrArg (fun z => z.1) hf).symm (congrArg (fun z => z.2) hf).symm rfl
        · have hf := hf.trans (if_pos c27)
          have hok := g_ip c27 hok
          refine x_aload_n C dX0_accepts_65 rfl 0 rfl ?_
          refine x_get (v := .int (m 0 1)) C in_X0_accepts_0 0 rfl rfl 1 (by decide) k_X0_accepts_15 rfl rfl dX0_accepts_66 ?_
          refine x_bipush (v := (39 : Int32)) C dX0_accepts_69 (by decide) ?_
          refine x_icmp_ge (tgt := 78) C dX0_accepts_71 (by decide) (fun c30 => ?_) (fun c30 => ?_)
          · have hf := hf.trans (if_pos c30)
            have hok := g_ip c30 hok
            refine x_iconst (v := (0 : Int32)) C dX0_accepts_78 (by decide) ?_
            refine x_iconst (v := (2 : Int32)) C dX0_accepts_79 (by decide) ?_
            have s31 := And.left hok
            have hok := And.right hok
            obtain ⟨z32, hz32⟩ : ∃ y9 : Int32 × gM, y9 = f_d_goesOn m (0 : Int32) (2 : Int32) := ⟨_, rfl⟩
            have hf := hf.trans (g_let_eq hz32)
            have hok := g_let_p hz32 hok
            have hmz32 : gMi l yX0_goesOn wsX0_goesOn rm_d_goesOn G shR q m h [.ref (q 0), .int (0 : Int32), .int (2 : Int32)] z32.2 h z32.1 := by rw [hz32]; exact c_d_goesOn l G q m h (0 : Int32) (2 : Int32) s31
            refine x_callVi (n := 2) C hq gFr_same (hmz32) (cwV 2 C.2.2.2.2.2.1 gX0_accepts_X0_goesOn rfl rfl rfl (by decide +kernel) ⟨Nat.le_of_ble_eq_true rfl, Nat.le_of_ble_eq_true rfl⟩) rfl rfl rfl rfl (Nat.le_of_ble_eq_true rfl) dX0_accepts_80 (Nat.zero_le _) (Nat.zero_le _) ?_
            have h01 := And.left hok
            exact g_iret C hr (g_nz h01) dX0_accepts_83 (congrArg (fun z => z.1) hf).symm (congrArg (fun z => z.2) hf).symm rfl
          · have hf := hf.trans (if_neg c30)
            have hok := g_in c30 hok
            refine x_iconst (v := (1 : Int32)) C dX0_accepts_74 (by decide) ?_
            refine x_goto (tgt := 79) C dX0_accepts_75 (by decide) ?_
            refine x_iconst (v := (2 : Int32)) C dX0_accepts_79 (by decide) ?_
            have s33 := And.left hok
            have hok := And.right hok
            obtain ⟨z34, hz34⟩ : ∃ y9 : Int32 × gM, y9 = f_d_goesOn m (1 : Int32) (2 : Int32) := ⟨_, rfl⟩
            have hf := hf.trans (g_let_eq hz34)
            have hok := g_let_p hz34 hok
            have hmz34 : gMi l yX0_goesOn wsX0_goesOn rm_d_goesOn G shR q m h [.ref (q 0), .int (1 : Int32), .int (2 : Int32)] z34.2 h z34.1 := by rw [hz34]; exact c_d_goesOn l G q m h (1 : Int32) (2 : Int32) s33
            refine x_callVi (n := 2) C hq gFr_same (hmz34) (cwV 2 C.2.2.2.2.2.1 gX0_accepts_X0_goesOn rfl rfl rfl (by decide +kernel) ⟨Nat.le_of_ble_eq_true rfl, Nat.le_of_ble_eq_true rfl⟩) rfl rfl rfl rfl (Nat.le_of_ble_eq_true rfl) dX0_accepts_80 (Nat.zero_le _) (Nat.zero_le _) ?_
            have h01 := And.left hok
            exact g_iret C hr (g_nz h01) dX0_accepts_83 (congrArg (fun z => z.1) hf).symm (congrArg (fun z => z.2) hf).symm rfl
      · have hf := hf.trans (if_neg c26)
        have hok := g_in c26 hok
        by_cases c35 : a1 = (59 : Int32)
        · have hf := hf.trans (if_pos c35)
          have hok := g_ip c35 hok
          refine x_look (tgt := 110) (off := 88) C dX0_accepts_22 rfl (by rw [c35]; rfl) (by decide) ?_
          refine x_aload_n C dX0_accepts_110 rfl 0 rfl ?_
          refine x_aload_n C dX0_accepts_111 rfl 0 rfl ?_
          have s36 := And.left hok
          have hok := And.right hok
          refine x_callVi (n := 0) C hq gFr_same (c_d_isPartWhole l G q m h s36) (cwV 0 C.2.2.2.2.2.1 gX0_accepts_X0_isPartWhole rfl rfl rfl (by decide +kernel) ⟨Nat.le_of_ble_eq_true rfl, Nat.le_of_ble_eq_true rfl⟩) rfl rfl rfl rfl (Nat.le_of_ble_eq_true rfl) dX0_accepts_112 (Nat.zero_le _) (Nat.zero_le _) ?_
          refine x_iconst (v := (0 : Int32)) C dX0_accepts_115 (by decide) ?_
          have s37 := And.left hok
          have hok := And.right hok
          obtain ⟨z38, hz38⟩ : ∃ y9 : Int32 × gM, y9 = f_d_goesOn m (f_d_isPartWhole m) (0 : Int32) := ⟨_, rfl⟩
          have hf := hf.trans (g_let_eq hz38)
          have hok := g_let_p hz38 hok
          have hmz38 : gMi l yX0_goesOn wsX0_goesOn rm_d_goesOn G shR q m h [.ref (q 0), .int (f_d_isPartWhole m), .int (0 : Int32)] z38.2 h z38.1 := by rw [hz38]; exact c_d_goesOn l G q m h (f_d_isPartWhole m) (0 : Int32) s37
          refine x_callVi (n := 2) C hq gFr_same (hmz38) (cwV 2 C.2.2.2.2.2.1 gX0_accepts_X0_goesOn rfl rfl rfl (by decide +kernel) ⟨Nat.le_of_ble_eq_true rfl, Nat.le_of_ble_eq_true rfl⟩) rfl rfl rfl rfl (Nat.le_of_ble_eq_true rfl) dX0_accepts_116 (Nat.zero_le _) (Nat.zero_le _) ?_
          have h01 := And.left hok
          exact g_iret C hr (g_nz h01) dX0_accepts_119 (congrArg (fun z => z.1) hf).symm (congrArg (fun z => z.2) hf).symm rfl
        · have hf := hf.trans (if_neg c35)
          have hok := g_in c35 hok
          by_cases c39 : a1 = (104 : Int32)
          · have hf := hf.trans (if_pos c39)
            have hok := g_ip c39 hok
            refine x_look (tgt := 84) (off := 62) C dX0_accepts_22 rfl (by rw [c39]; rfl) (by decide) ?_
            refine x_aload_n C dX0_accepts_84 rfl 0 rfl ?_
            refine x_aload_n C dX0_accepts_85 rfl 0 rfl ?_
            have s40 := And.left hok
            have hok := And.right hok
            refine x_callVi (n := 0) C hq gFr_same (c_d_isPartWhole l G q m h s40) (cwV 0 C.2.2.2.2.2.1 gX0_accepts_X0_isPartWhole rfl rfl rfl (by decide +kernel) ⟨Nat.le_of_ble_eq_true rfl, Nat.le_of_ble_eq_true rfl⟩) rfl rfl rfl rfl (Nat.le_of_ble_eq_true rfl) dX0_accepts_86 (Nat.zero_le _) (Nat.zero_le _) ?_
            refine x_if_eq (tgt := 104) C dX0_accepts_89 (by decide) (fun c41 => ?_) (fun c41 => ?_)
            · have hf := hf.trans (if_pos c41)
              have hok := g_ip c41 hok
              refine x_iconst (v := (0 : Int32)) C dX0_accepts_104 (by decide) ?_
              refine x_iconst (v := (4 : Int32)) C dX0_accepts_105 (by decide) ?_
              have s42 := And.left hok
              have hok := And.right hok
              obtain ⟨z43, hz43⟩ : ∃ y9 : Int32 × gM, y9 = f_d_goesOn m (0 : Int32) (4 : Int32) := ⟨_, rfl⟩
              have hf := hf.trans (g_let_eq hz43)
              have hok := g_let_p hz43 hok
              have hmz43 : gMi l yX0_goesOn wsX0_goesOn rm_d_goesOn G shR q m h [.ref (q 0), .int (0 : Int32), .int (4 : Int32)] z43.2 h z43.1 := by rw [hz43]; exact c_d_goesOn l G q m h (0 : Int32) (4 : Int32) s42
              refine x_callVi (n := 2) C hq gFr_same (hmz43) (cwV 2 C.2.2.2.2.2.1 gX0_accepts_X0_goesOn rfl rfl rfl (by decide +kernel) ⟨Nat.le_of_ble_eq_true rfl, Nat.le_of_ble_eq_true rfl⟩) rfl rfl rfl rfl (Nat.le_of_ble_eq_true rfl) dX0_accepts_106 (Nat.zero_le _) (Nat.zero_le _) ?_
              have h01 := And.left hok
              exact g_iret C hr (g_nz h01) dX0_accepts_109 (congrArg (fun z => z.1) hf).symm (congrArg (fun z => z.2) hf).symm rfl
            · have hf := hf.trans (if_neg c41)
              have hok := g_in c41 hok
              refine x_aload_n C dX0_accepts_92 rfl 0 rfl ?_
              refine x_get (v := .int (m 0 0)) C in_X0_accepts_0 0 rfl rfl 0 (by decide) k_X0_accepts_11 rfl rfl dX0_accepts_93 ?_
              refine x_iconst (v := (5 : Int32)) C dX0_accepts_96 (by decide) ?_
              refine x_icmp_eq (tgt := 104) C dX0_accepts_97 (by decide) (fun c44 => ?_) (fun c44 => ?_)
              · have hf := hf.trans (if_pos c44)
                have hok := g_ip c44 hok
                refine x_iconst (v := (0 : Int32)) C dX0_accepts_104 (by decide) ?_
                refine x_iconst (v := (4 : Int32)) C dX0_accepts_105 (by decide) ?_
                have s45 := And.left hok
                have hok := And.right hok
                obtain ⟨z46, hz46⟩ : ∃ y9 : Int32 × gM, y9 = f_d_goesOn m (0 : Int32) (4 : Int32) := ⟨_, rfl⟩
                have hf := hf.trans (g_let_eq hz46)
                have hok := g_let_p hz46 hok
                have hmz46 : gMi l yX0_goesOn wsX0_goesOn rm_d_goesOn G shR q m h [.ref (q 0), .int (0 : Int32), .int (4 : Int32)] z46.2 h z46.1 := by rw [hz46]; exact c_d_goesOn l G q m h (0 : Int32) (4 : Int32) s45
                refine x_callVi (n := 2) C hq gFr_same (hmz46) (cwV 2 C.2.2.2.2.2.1 gX0_accepts_X0_goesOn rfl rfl rfl (by decide +kernel) ⟨Nat.le_of_ble_eq_true rfl, Nat.le_of_ble_eq_true rfl⟩) rfl rfl rfl rfl (Nat.le_of_ble_eq_true rfl) dX0_accepts_106 (Nat.zero_le _) (Nat.zero_le _) ?_
                have h01 := And.left hok
                exact g_iret C hr (g_nz h01) dX0_accepts_109 (congrArg (fun z => z.1) hf).symm (congrArg (fun z => z.2) hf).symm rfl
              · have hf := hf.trans (if_neg c44)
                have hok := g_in c44 hok
                refine x_iconst (v := (1 : Int32)) C dX0_accepts_100 (by decide) ?_
                refine x_goto (tgt := 105) C dX0_accepts_101 (by decide) ?_
                refine x_iconst (v := (4 : Int32)) C dX0_accepts_105 (by decide) ?_
                have s47 := And.left hok
                have hok := And.right hok
                obtain ⟨z48, hz48⟩ : ∃ y9 : Int32 × gM, y9 = f_d_goesOn m (1 : Int32) (4 : Int32) := ⟨_, rfl⟩
                have hf := hf.trans (g_let_eq hz48)
                have hok := g_let_p hz48 hok
                have hmz48 : gMi l yX0_goesOn wsX0_goesOn rm_d_goesOn G shR q m h [.ref (q 0), .int (1 : Int32), .int (4 : Int32)] z48.2 h z48.1 := by rw [hz48]; exact c_d_goesOn l G q m h (1 : Int32) (4 : Int32) s47
                refine x_callVi (n := 2) C hq gFr_same (hmz48) (cwV 2 C.2.2.2.2.2.1 gX0_accepts_X0_goesOn rfl rfl rfl (by decide +kernel) ⟨Nat.le_of_ble_eq_true rfl, Nat.le_of_ble_eq_true rfl⟩) rfl rfl rfl rfl (Nat.le_of_ble_eq_true rfl) dX0_accepts_106 (Nat.zero_le _) (Nat.zero_le _) ?_
                have h01 := And.left hok
                exact g_iret C hr (g_nz h01) dX0_accepts_109 (congrArg (fun z => z.1) hf).symm (congrArg (fun z => z.2) hf).symm rfl
          · have hf := hf.trans (if_neg c39)
            have hok := g_in c39 hok
            refine x_look (tgt := 120) (off := 98) C dX0_accepts_22 rfl (by show Op.lookupswitch.offset [((45 : Int), (34 : Int)), ((59 : Int), (88 : Int)), ((104 : Int), (62 : Int))] _ _ = _; rw [lv_osw (a := 45) c26 rfl, lv_osw (a := 59) c35 rfl, lv_osw (a := 104) c39 rfl]; rfl) (by decide) ?_
            refine x_iconst (v := (0 : Int32)) C dX0_accepts_120 (by decide) ?_
            exact g_iret C hr (g_nz (Or.inl rfl)) dX0_accepts_121 (congrArg (fun z => z.1) hf).symm (congrArg (fun z => z.2) hf).symm rfl
    · have hf := hf.trans (if_neg c25)
      have hok := g_in c25 hok
      refine x_aload_n C dX0_accepts_12 rfl 0 rfl ?_
      refine x_iload_n C dX0_accepts_13 rfl 1 rfl ?_
      refine x_bipush (v := (48 : Int32)) C dX0_accepts_14 (by decide) ?_
      refine x_isub C dX0_accepts_16 ?_
      have s49 := And.left hok
      have hok := And.right hok
      obtain ⟨z50, hz50⟩ : ∃ y9 : Int32 × gM, y9 = f_d_acceptsDigit m (a1 - (48 : Int32)) := ⟨_, rfl⟩
      have hf := hf.trans (g_let_eq hz50)
      have hok := g_let_p hz50 hok
      have hmz50 : gMi l yX0_acceptsDigit wsX0_acceptsDigit rm_d_acceptsDigit G shR q m h [.ref (q 0), .int (a1 - (48 : Int32))] z50.2 h z50.1 := by rw [hz50]; exact c_d_acceptsDigit l G q m h (a1 - (48 : Int32)) s49
      refine x_callVi (n := 1) C hq gFr_same (hmz50) (cwV 1 C.2.2.2.2.2.1 gX0_accepts_X0_acceptsDigit rfl rfl rfl (by decide +kernel) ⟨Nat.le_of_ble_eq_true rfl, Nat.le_of_ble_eq_true rfl⟩) rfl rfl rfl rfl (Nat.le_of_ble_eq_true rfl) dX0_accepts_17 (Nat.zero_le _) (Nat.zero_le _) ?_
      have h01 := And.left hok
      exact g_iret C hr (g_nz h01) dX0_accepts_20 (congrArg (fun z => z.1) hf).symm (congrArg (fun z => z.2) hf).symm rfl
