def sh0 : List gC := []
abbrev rm_r_in : Room := { frames := 0, cells := 0, slots := 0, locals := 0 }
noncomputable def f_r_in (a1 : Int32) (a2 : Int32) (a3 : Int32) : Int32 := (if a1 < a2 then (0 : Int32) else (if a3 < a1 then (0 : Int32) else (1 : Int32)))
noncomputable def o_r_in (a1 : Int32) (a2 : Int32) (a3 : Int32) : Prop := (if a1 < a2 then True else (if a3 < a1 then True else True))
set_option maxRecDepth 100000 in
set_option maxHeartbeats 4000000 in
theorem c_r_in (l : Launch) (G : gG) (q : Nat → Nat) (m : gM) (h : gN) (a1 : Int32) (a2 : Int32) (a3 : Int32) (hok : o_r_in a1 a2 a3) : gMi l yX3_in wsX3_in rm_r_in G sh0 q m h [.int a1, .int a2, .int a3] m h (f_r_in a1 a2 a3) := by
  intro sz
  refine g_met (cc := cX3_in) (maxL := 3) (ret := (some .boolean)) (own := RX3) (Qc := fun sz => gQi G sh0 q m h sz (f_r_in a1 a2 a3)) (by decide) rfl rfl (Nat.le_of_ble_eq_true rfl) (fun p e s m9 below meth c C hq hr => ?_)
  refine x_lv (lv' := [(0, .int a1), (1, .int a2), (2, .int a3)]) [0, 1, 2] rfl ?_
  have hf := f_r_in.eq_1 a1 a2 a3
  have hok := Eq.mp (o_r_in.eq_1 a1 a2 a3) hok
  refine x_iload_n C dX3_in_0 rfl 0 rfl ?_
  refine x_iload_n C dX3_in_1 rfl 1 rfl ?_
  refine x_icmp_lt (tgt := 14) C dX3_in_2 (by decide) (fun c1 => ?_) (fun c1 => ?_)
  · have hf := hf.trans (if_pos c1)
    have hok := g_ip c1 hok
    refine x_iconst (v := (0 : Int32)) C dX3_in_14 (by decide) ?_
    exact g_iret C hr (g_nz (Or.inl rfl)) dX3_in_15 hf.symm rfl rfl
  · have hf := hf.trans (if_neg c1)
    have hok := g_in c1 hok
    refine x_iload_n C dX3_in_5 rfl 0 rfl ?_
    refine x_iload_n C dX3_in_6 rfl 2 rfl ?_
    refine x_icmp_gt (tgt := 14) C dX3_in_7 (by decide) (fun c2 => ?_) (fun c2 => ?_)
    · have hf := hf.trans (if_pos c2)
      have hok := g_ip c2 hok
      refine x_iconst (v := (0 : Int32)) C dX3_in_14 (by decide) ?_
      exact g_iret C hr (g_nz (Or.inl rfl)) dX3_in_15 hf.symm rfl rfl
    · have hf := hf.trans (if_neg c2)
      have hok := g_in c2 hok
      refine x_iconst (v := (1 : Int32)) C dX3_in_10 (by decide) ?_
      refine x_goto (tgt := 15) C dX3_in_11 (by decide) ?_
      exact g_iret C hr (g_nz (Or.inr rfl)) dX3_in_15 hf.symm rfl rfl
abbrev rm_r_isPage : Room := { frames := 1, cells := 0, slots := 0, locals := 22 }
noncomputable def f_r_isPage (a1 : Int32) : Int32 := (f_r_in a1 (0 : Int32) (39 : Int32))
noncomputable def o_r_isPage (a1 : Int32) : Prop := (o_r_in a1 (0 : Int32) (39 : Int32)) ∧ (((f_r_in a1 (0 : Int32) (39 : Int32)) = 0 ∨ (f_r_in a1 (0 : Int32) (39 : Int32)) = 1) ∧ True)
set_option maxRecDepth 100000 in
set_option maxHeartbeats 4000000 in
theorem c_r_isPage (l : Launch) (G : gG) (q : Nat → Nat) (m : gM) (h : gN) (a1 : Int32) (hok : o_r_isPage a1) : gMi l yX3_isPage wsX3_isPage rm_r_isPage G sh0 q m h [.int a1] m h (f_r_isPage a1) := by
  intro sz
  refine g_met (cc := cX3_isPage) (maxL := 1) (ret := (some .boolean)) (own := RX3) (Qc := fun sz => gQi G sh0 q m h sz (f_r_isPage a1)) (by decide) rfl rfl (Nat.le_of_ble_eq_true rfl) (fun p e s m9 below meth c C hq hr => ?_)
  refine x_lv (lv' := [(0, .int a1)]) [0] rfl ?_
  have hf := f_r_isPage.eq_1 a1
  have hok := Eq.mp (o_r_isPage.eq_1 a1) hok
  refine x_iload_n C dX3_isPage_0 rfl 0 rfl ?_
  refine x_iconst (v := (0 : Int32)) C dX3_isPage_1 (by decide) ?_
  refine x_bipush (v := (39 : Int32)) C dX3_isPage_2 (by decide) ?_
  have s1 := And.left hok
  have hok := And.right hok
  refine x_callSi (n := 3) C hq gFr_same (c_r_in l G q m h a1 (0 : Int32) (39 : Int32) s1) (va_cwS 3 C.2.2.2.2.2.1 gX3_isPage_X3_in rfl rfl rfl (by decide +kernel) ⟨Nat.le_of_ble_eq_true rfl, Nat.le_of_ble_eq_true rfl⟩) rfl rfl (Nat.le_of_ble_eq_true rfl) dX3_isPage_4 (Nat.zero_le _) (Nat.zero_le _) ?_
  have h01 := And.left hok
  exact g_iret C hr (g_nz h01) dX3_isPage_7 hf.symm rfl rfl
abbrev rm_r_isBlock : Room := { frames := 1, cells := 0, slots := 0, locals := 22 }
noncomputable def f_r_isBlock (a1 : Int32) : Int32 := (f_r_in a1 (0 : Int32) (11 : Int32))
noncomputable def o_r_isBlock (a1 : Int32) : Prop := (o_r_in a1 (0 : Int32) (11 : Int32)) ∧ (((f_r_in a1 (0 : Int32) (11 : Int32)) = 0 ∨ (f_r_in a1 (0 : Int32) (11 : Int32)) = 1) ∧ True)
set_option maxRecDepth 100000 in
set_option maxHeartbeats 4000000 in
theorem c_r_isBlock (l : Launch) (G : gG) (q : Nat → Nat) (m : gM) (h : gN) (a1 : Int32) (hok : o_r_isBlock a1) : gMi l yX3_isBlock wsX3_isBlock rm_r_isBlock G sh0 q m h [.int a1] m h (f_r_isBlock a1) := by
  intro sz
  refine g_met (cc := cX3_isBlock) (maxL := 1) (ret := (some .boolean)) (own := RX3) (Qc := fun sz => gQi G sh0 q m h sz (f_r_isBlock a1)) (by decide) rfl rfl (Nat.le_of_ble_eq_true rfl) (fun p e s m9 below meth c C hq hr => ?_)
  refine x_lv (lv' := [(0, .int a1)]) [0] rfl ?_
  have hf := f_r_isBlock.eq_1 a1
  have hok := Eq.mp (o_r_isBlock.eq_1 a1) hok
  refine x_iload_n C dX3_isBlock_0 rfl 0 rfl ?_
  refine x_iconst (v := (0 : Int32)) C dX3_isBlock_1 (by decide) ?_
  refine x_bipush (v := (11 : Int32)) C dX3_isBlock_2 (by decide) ?_
  have s1 := And.left hok
  have hok := And.right hok
  refine x_callSi (n := 3) C hq gFr_same (c_r_in l G q m h a1 (0 : Int32) (11 : Int32) s1) (va_cwS 3 C.2.2.2.2.2.1 gX3_isBlock_X3_in rfl rfl rfl (by decide +kernel) ⟨Nat.le_of_ble_eq_true rfl, Nat.le_of_ble_eq_true rfl⟩) rfl rfl (Nat.le_of_ble_eq_true rfl) dX3_isBlock_4 (Nat.zero_le _) (Nat.zero_le _) ?_
  have h01 := And.left hok
  exact g_iret C hr (g_nz h01) dX3_isBlock_7 hf.symm rfl rfl
abbrev rm_r_isHint : Room := { frames := 1, cells := 0, slots := 0, locals := 22 }
noncomputable def f_r_isHint (a1 : Int32) : Int32 := (f_r_in a1 (0 : Int32) (3 : Int32))
noncomputable def o_r_isHint (a1 : Int32) : Prop := (o_r_in a1 (0 : Int32) (3 : Int32)) ∧ (((f_r_in a1 (0 : Int32) (3 : Int32)) = 0 ∨ (f_r_in a1 (0 : Int32) (3 : Int32)) = 1) ∧ True)
set_option maxRecDepth 100000 in
set_option maxHeartbeats 4000000 in
theorem c_r_isHint (l : Launch) (G : gG) (q : Nat → Nat) (m : gM) (h : gN) (a1 : Int32) (hok : o_r_isHint a1) : gMi l yX3_isHint wsX3_isHint rm_r_isHint G sh0 q m h [.int a1] m h (f_r_isHint a1) := by
  intro sz
  refine g_met (cc := cX3_isHint) (maxL := 1) (ret := (some .boolean)) (own := RX3) (Qc := fun sz => gQi G sh0 q m h sz (f_r_isHint a1)) (by decide) rfl rfl (Nat.le_of_ble_eq_true rfl) (fun p e s m9 below meth c C hq hr => ?_)
  refine x_lv (lv' := [(0, .int a1)]) [0] rfl ?_
  have hf := f_r_isHint.eq_1 a1
  have hok := Eq.mp (o_r_isHint.eq_1 a1) hok
  refine x_iload_n C dX3_isHint_0 rfl 0 rfl ?_
  refine x_iconst (v := (0 : Int32)) C dX3_isHint_1 (by decide) ?_
  refine x_iconst (v := (3 : Int32)) C dX3_isHint_2 (by decide) ?_
  have s1 := And.left hok
  have hok := And.right hok
  refine x_callSi (n := 3) C hq gFr_same (c_r_in l G q m h a1 (0 : Int32) (3 : Int32) s1) (va_cwS 3 C.2.2.2.2.2.1 gX3_isHint_X3_in rfl rfl rfl (by decide +kernel) ⟨Nat.le_of_ble_eq_true rfl, Nat.le_of_ble_eq_true rfl⟩) rfl rfl (Nat.le_of_ble_eq_true rfl) dX3_isHint_3 (Nat.zero_le _) (Nat.zero_le _) ?_
  have h01 := And.left hok
  exact g_iret C hr (g_nz h01) dX3_isHint_6 hf.symm rfl rfl
def shr : List gC := [.inl 364]
abbrev rm_r_of : Room := { frames := 0, cells := 0, slots := 0, locals := 0 }
noncomputable def f_r_of (m : gM) (a1 : Int32) (a2 : Int32) : Int32 := (m 0 (((144 : Int32) + ((5 : Int32) * a1)) + a2).toNatClampNeg)
noncomputable def o_r_of (m : gM) (a1 : Int32) (a2 : Int32) : Prop := (vp_in (((144 : Int32) + ((5 : Int32) * a1)) + a2) 364) ∧ (True)
set_option maxRecDepth 100000 in
set_option maxHeartbeats 4000000 in
theorem c_r_of (l : Launch) (G : gG) (q : Nat → Nat) (m : gM) (h : gN) (a1 : Int32) (a2 : Int32) (hok : o_r_of m a1 a2) : gMi l yX3_of wsX3_of rm_r_of G shr q m h [.ref (q 0), .int a1, .int a2] m h (f_r_of m a1 a2) := by
  intro sz
  refine g_met (cc := cX3_of) (maxL := 3) (ret := (some .int)) (own := RX3) (Qc := fun sz => gQi G shr q m h sz (f_r_of m a1 a2)) (by decide) rfl rfl (Nat.le_of_ble_eq_true rfl) (fun p e s m9 below meth c C hq hr => ?_)
  refine x_lv (lv' := [(0, .ref (q 0)), (1, .int a1), (2, .int a2)]) [0, 1, 2] rfl ?_
  have hf := f_r_of.eq_1 m a1 a2
  have hok := Eq.mp (o_r_of.eq_1 m a1 a2) hok
  refine x_aload_n C dX3_of_0 rfl 0 rfl ?_
  refine x_sipush (v := (144 : Int32)) C dX3_of_1 (by decide) ?_
  refine x_iconst (v := (5 : Int32)) C dX3_of_4 (by decide) ?_
  refine x_iload_n C dX3_of_5 rfl 1 rfl ?_
  refine x_imul C dX3_of_6 ?_
  refine x_iadd C dX3_of_7 ?_
  refine x_iload_n C dX3_of_8 rfl 2 rfl ?_
  refine x_iadd C dX3_of_9 ?_
  have s1 := And.left hok
  have hok := And.right hok
  refine x_iald (n := 364) (v := (m 0 (((144 : Int32) + ((5 : Int32) * a1)) + a2).toNatClampNeg)) C 0 rfl s1 rfl dX3_of_10 ?_
  exact g_iret C hr rfl dX3_of_11 hf.symm rfl rfl
abbrev rm_r_isWritten : Room := { frames := 1, cells := 0, slots := 0, locals := 22 }
noncomputable def f_r_isWritten (m : gM) (a1 : Int32) : Int32 := (if (f_r_of m a1 (0 : Int32)) = (-1 : Int32) then (0 : Int32) else (1 : Int32))
noncomputable def o_r_isWritten (m : gM) (a1 : Int32) : Prop := (o_r_of m a1 (0 : Int32)) ∧ ((if (f_r_of m a1 (0 : Int32)) = (-1 : Int32) then True else True))
set_option maxRecDepth 100000 in
set_option maxHeartbeats 4000000 in
theorem c_r_isWritten (l : Launch) (G : gG) (q : Nat → Nat) (m : gM) (h : gN) (a1 : Int32) (hok : o_r_isWritten m a1) : gMi l yX3_isWritten wsX3_isWritten rm_r_isWritten G shr q m h [.ref (q 0), .int a1] m h (f_r_isWritten m a1) := by
  intro sz
  refine g_met (cc := cX3_isWritten) (maxL := 2) (ret := (some .boolean)) (own := RX3) (Qc := fun sz => gQi G shr q m h sz (f_r_isWritten m a1)) (by decide) rfl rfl (Nat.le_of_ble_eq_true rfl) (fun p e s m9 below meth c C hq hr => ?_)
  refine x_lv (lv' := [(0, .ref (q 0)), (1, .int a1)]) [0, 1] rfl ?_
  have hf := f_r_isWritten.eq_1 m a1
  have hok := Eq.mp (o_r_isWritten.eq_1 m a1) hok
  refine x_aload_n C dX3_isWritten_0 rfl 0 rfl ?_
  refine x_iload_n C dX3_isWritten_1 rfl 1 rfl ?_
  refine x_iconst (v := (0 : Int32)) C dX3_isWritten_2 (by decide) ?_
  have s1 := And.left hok
  have hok := And.right hok
  refine x_callSi (n := 3) C hq gFr_same (c_r_of l G q m h a1 (0 : Int32) s1) (va_cwS 3 C.2.2.2.2.2.1 gX3_isWritten_X3_of rfl rfl rfl (by decide +kernel) ⟨Nat.le_of_ble_eq_true rfl, Nat.le_of_ble_eq_true rfl⟩) rfl rfl (Nat.le_of_ble_eq_true rfl) dX3_isWritten_3 (Nat.zero_le _) (Nat.zero_le _) ?_
  refine x_iconst (v := (-1 : Int32)) C dX3_isWritten_6 (by decide) ?_
  refine x_icmp_eq (tgt := 14) C dX3_isWritten_7 (by decide) (fun c2 => ?_) (fun c2 => ?_)
  · have hf := hf.trans (if_pos c2)
    have hok := g_ip c2 hok
    refine x_iconst (v := (0 : Int32)) C dX3_isWritten_14 (by decide) ?_
    exact g_iret C hr (g_nz (Or.inl rfl)) dX3_isWritten_15 hf.symm rfl rfl
  · have hf := hf.trans (if_neg c2)
    have hok := g_in c2 hok
    refine x_iconst (v := (1 : Int32)) C dX3_isWritten_10 (by decide) ?_
    refine x_goto (tgt := 15) C dX3_isWritten_11 (by decide) ?_
    exact g_iret C hr (g_nz (Or.inr rfl)) dX3_isWritten_15 hf.symm rfl rfl
abbrev rm_r_isValid : Room := { frames := 1, cells := 0, slots := 0, locals := 22 }
noncomputable def f_r_isValid (m : gM) (a1 : Int32) : Int32 := (if (m 0 a1.toNatClampNeg) = (-1 : Int32) then (0 : Int32) else (if (f_r_of m (m 0 a1.toNatClampNeg) (0 : Int32)) = a1 then (1 : Int32) else (0 : Int32)))
noncomputable def o_r_isValid (m : gM) (a1 : Int32) : Prop := (vp_in a1 364) ∧ ((if (m 0 a1.toNatClampNeg) = (-1 : Int32) then True else (vp_in a1 364) ∧ ((o_r_of m (m 0 a1.toNatClampNeg) (0 : Int32)) ∧ ((if (f_r_of m (m 0 a1.toNatClampNeg) (0 : Int32)) = a1 then True else True)))))
set_option maxRecDepth 100000 in
set_option maxHeartbeats 4000000 in
theorem c_r_isValid (l : Launch) (G : gG) (q : Nat → Nat) (m : gM) (h : gN) (a1 : Int32) (hok : o_r_isValid m a1) : gMi l yX3_isValid wsX3_isValid rm_r_isValid G shr q m h [.ref (q 0), .int a1] m h (f_r_isValid m a1) := by
  intro sz
  refine g_met (cc := cX3_isValid) (maxL := 2) (ret := (some .boolean)) (own := RX3) (Qc := fun sz => gQi G shr q m h sz (f_r_isValid m a1)) (by decide) rfl rfl (Nat.le_of_ble_eq_true rfl) (fun p e s m9 below meth c C hq hr => ?_)
  refine x_lv (lv' := [(0, .ref (q 0)), (1, .int a1)]) [0, 1] rfl ?_
  have hf := f_r_isValid.eq_1 m a1
  have hok := Eq.mp (o_r_isValid.eq_1 m a1) hok
  refine x_aload_n C dX3_isValid_0 rfl 0 rfl ?_
  refine x_iload_n C dX3_isValid_1 rfl 1 rfl ?_
  have s1 := And.left hok
  have hok := And.right hok
  refine x_iald (n := 364) (v := (m 0 a1.toNatClampNeg)) C 0 rfl s1 rfl dX3_isValid_2 ?_
  refine x_iconst (v := (-1 : Int32)) C dX3_isValid_3 (by decide) ?_
  refine x_icmp_eq (tgt := 23) C dX3_isValid_4 (by decide) (fun c2 => ?_) (fun c2 => ?_)
  · have hf := hf.trans (if_pos c2)
    have hok := g_ip c2 hok
    refine x_iconst (v := (0 : Int32)) C dX3_isValid_23 (by decide) ?_
    exact g_iret C hr (g_nz (Or.inl rfl)) dX3_isValid_24 hf.symm rfl rfl
  · have hf := hf.trans (if_neg c2)
    have hok := g_in c2 hok
    refine x_aload_n C dX3_isValid_7 rfl 0 rfl ?_
    refine x_aload_n C dX3_isValid_8 rfl 0 rfl ?_
    refine x_iload_n C dX3_isValid_9 rfl 1 rfl ?_
    have s3 := And.left hok
    have hok := And.right hok
    refine x_iald (n := 364) (v := (m 0 a1.toNatClampNeg)) C 0 rfl s3 rfl dX3_isValid_10 ?_
    refine x_iconst (v := (0 : Int32)) C dX3_isValid_11 (by decide) ?_
    have s4 := And.left hok
    have hok := And.right hok
    refine x_callSi (n := 3) C hq gFr_same (c_r_of l G q m h (m 0 a1.toNatClampNeg) (0 : Int32) s4) (va_cwS 3 C.2.2.2.2.2.1 gX3_isValid_X3_of rfl rfl rfl (by decide +kernel) ⟨Nat.le_of_ble_eq_true rfl, Nat.le_of_ble_eq_true rfl⟩) rfl rfl (Nat.le_of_ble_eq_true rfl) dX3_isValid_12 (Nat.zero_le _) (Nat.zero_le _) ?_
    refine x_iload_n C dX3_isValid_15 rfl 1 rfl ?_
    refine x_icmp_ne (tgt := 23) C dX3_isValid_16 (by decide) (fun c5 => ?_) (fun c5 => ?_)
    · have hf := hf.trans (if_neg c5)
      have hok := g_in c5 hok
      refine x_iconst (v := (0 : Int32)) C dX3_isValid_23 (by decide) ?_
      exact g_iret C hr (g_nz (Or.inl rfl)) dX3_isValid_24 hf.symm rfl rfl
    · have hf := hf.trans (if_pos c5)
      have hok := g_ip c5 hok
      refine x_iconst (v := (1 : Int32)) C dX3_isValid_19 (by decide) ?_
      refine x_goto (tgt := 24) C dX3_isValid_20 (by decide) ?_
      exact g_iret C hr (g_nz (Or.inr rfl)) dX3_isValid_24 hf.symm rfl rfl
abbrev rm_r_slots : Room := { frames := 2, cells := 0, slots := 0, locals := 43 }
noncomputable def L_r_slots_8 (m : gM) (x1 : Int32) (x2 : Int32) (z : Int32 × Int32) : Bool × (Int32 × Int32) := (if (((8 : Int32) * x1) + (8 : Int32)) ≤ z.2 then (false, (z.1, z.2)) else (if (m 0 z.2.toNatClampNeg) = (-1 : Int32) then (if (2 : Int32) = x2 then g_let ((z.1 + (1 : Int32))) (fun z19 : Int32 => g_let ((z.2 + (1 : Int32))) (fun z20 : Int32 => (true, (z19, z20)))) else g_let ((z.1 + (0 : Int32))) (fun z17 : Int32 => g_let ((z.2 + (1 : Int32))) (fun z18 : Int32 => (true, (z17, z18))))) else (if (f_r_isValid m z.2) = 0 then (if (1 : Int32) = x2 then g_let ((z.1 + (1 : Int32))) (fun z9 : Int32 => g_let ((z.2 + (1 : Int32))) (fun z10 : Int32 => (true, (z9, z10)))) else g_let ((z.1 + (0 : Int32))) (fun z7 : Int32 => g_let ((z.2 + (1 : Int32))) (fun z8 : Int32 => (true, (z7, z8))))) else (if (0 : Int32) = x2 then g_let ((z.1 + (1 : Int32))) (fun z14 : Int32 => g_let ((z.2 + (1 : Int32))) (fun z15 : Int32 => (true, (z14, z15)))) else g_let ((z.1 + (0 : Int32))) (fun z12 : Int32 => g_let ((z.2 + (1 : Int32))) (fun z13 : Int32 => (true, (z12, z13))))))))
noncomputable def K_r_slots_8 (m : gM) (x1 : Int32) (x2 : Int32) (z : Int32 × Int32) : Prop := (if (((8 : Int32) * x1) + (8 : Int32)) ≤ z.2 then True else (vp_in z.2 364) ∧ ((if (m 0 z.2.toNatClampNeg) = (-1 : Int32) then (if (2 : Int32) = x2 then g_let ((z.1 + (1 : Int32))) (fun z19 : Int32 => g_let ((z.2 + (1 : Int32))) (fun z20 : Int32 => True)) else g_let ((z.1 + (0 : Int32))) (fun z17 : Int32 => g_let ((z.2 + (1 : Int32))) (fun z18 : Int32 => True))) else (o_r_isValid m z.2) ∧ ((if (f_r_isValid m z.2) = 0 then (if (1 : Int32) = x2 then g_let ((z.1 + (1 : Int32))) (fun z9 : Int32 => g_let ((z.2 + (1 : Int32))) (fun z10 : Int32 => True)) else g_let ((z.1 + (0 : Int32))) (fun z7 : Int32 => g_let ((z.2 + (1 : Int32))) (fun z8 : Int32 => True))) else (if (0 : Int32) = x2 then g_let ((z.1 + (1 : Int32))) (fun z14 : Int32 => g_let ((z.2 + (1 : Int32))) (fun z15 : Int32 => True)) else g_let ((z.1 + (0 : Int32))) (fun z12 : Int32 => g_let ((z.2 + (1 : Int32))) (fun z13 : Int32 => True))))))))
set_option maxRecDepth 100000 in
set_option maxHeartbeats 4000000 in
theorem lp_r_slots_8 {p : Program} {l : Launch} {e : Env} {s : State} {m9 : MethodId} {args : Array Value} {below : List Frame} {meth : Method} {c : Code} {G : gG} {A : Nat → Prop} {Q : State → Prop} {q : Nat → Nat} (C : xC p s m9 args meth c G A 6 cX3_slots RX3 wsX3_slots) (hq : gD A q shr.length) (m : gM) (h : gN) (x1 : Int32) (x2 : Int32) : ∀ (n : Nat) (z : Int32 × Int32), rOk (L_r_slots_8 m x1 x2) (K_r_slots_8 m x1 x2) n z → (∀ z' : Int32 × Int32, run (L_r_slots_8 m x1 x2) n z = z' → xJ p l e rm_r_slots s m9 args below meth c G A 6 Q 0 0 shr q m h [(0, .ref (q 0)), (1, .int x1), (2, .int x2), (3, .int z'.1), (4, .int z'.2)] [] 68) → xJ p l e rm_r_slots s m9 args below meth c G A 6 Q 0 0 shr q m h [(0, .ref (q 0)), (1, .int x1), (2, .int x2), (3, .int z.1), (4, .int z.2)] [] 8 := by
  intro n
  induction n with
  | zero =>
    intro z hok _
    exact rOk_0 hok
  | succ n ih =>
    intro z hok K0
    have hnx := rOk_2 hok
    have hok := rOk_1 hok
    have hf := L_r_slots_8.eq_1 m x1 x2 z
    have hok := Eq.mp (K_r_slots_8.eq_1 m x1 x2 z) hok
    refine x_iload C dX3_slots_8 4 rfl ?_
    refine x_bipush (v := (8 : Int32)) C dX3_slots_10 (by decide) ?_
    refine x_iload_n C dX3_slots_12 rfl 1 rfl ?_
    refine x_imul C dX3_slots_13 ?_
    refine x_bipush (v := (8 : Int32)) C dX3_slots_14 (by decide) ?_
    refine x_iadd C dX3_slots_16 ?_
    refine x_icmp_ge (tgt := 68) C dX3_slots_17 (by decide) (fun c1 => ?_) (fun c1 => ?_)
    · have hf := hf.trans (if_pos c1)
      have hok := g_ip c1 hok
      exact K0 ((z.1, z.2)) (run_f hf)
    · have hf := hf.trans (if_neg c1)
      have hok := g_in c1 hok
      refine x_aload_n C dX3_slots_20 rfl 0 rfl ?_
      refine x_iload C dX3_slots_21 4 rfl ?_
      have s2 := And.left hok
      have hok := And.right hok
      refine x_iald (n := 364) (v := (m 0 z.2.toNatClampNeg)) C 0 rfl s2 rfl dX3_slots_23 ?_
      refine x_iconst (v := (-1 : Int32)) C dX3_slots_24 (by decide) ?_
      refine x_icmp_ne (tgt := 32) C dX3_slots_25 (by decide) (fun c3 => ?_) (fun c3 => ?_)
      · have hf := hf.trans (if_neg c3)
        have hok := g_in c3 hok
        refine x_aload_n C dX3_slots_32 rfl 0 rfl ?_
        refine x_iload C dX3_slots_33 4 rfl ?_
        have s4 := And.left hok
        have hok := And.right hok
        refine x_callSi (n := 2) C hq gFr_same (c_r_isValid l G q m h z.2 s4) (va_cwS 2 C.2.2.2.2.2.1 gX3_slots_X3_isValid rfl rfl rfl (by decide +kernel) ⟨Nat.le_of_ble_eq_true rfl, Nat.le_of_ble_eq_true rfl⟩) rfl rfl (Nat.le_of_ble_eq_true rfl) dX3_slots_35 (Nat.zero_le _) (Nat.zero_le _) ?_
        refine x_if_eq (tgt := 45) C dX3_slots_38 (by decide) (fun c5 => ?_) (fun c5 => ?_)
        · have hf := hf.trans (if_pos c5)
          have hok := g_ip c5 hok
          refine x_iconst (v := (1 : Int32)) C dX3_slots_45 (by decide) ?_
          refine x_istore (lv' := [(0, .ref (q 0)), (1, .int x1), (2, .int x2), (3, .int z.1), (4, .int z.2), (5, .int (1 : Int32))]) C dX3_slots_46 (by decide) [1, 2, 3, 4, 5, 0] rfl ?_
          refine x_iload_n C dX3_slots_48 rfl 3 rfl ?_
          refine x_iload C dX3_slots_49 5 rfl ?_
          refine x_iload_n C dX3_slots_51 rfl 2 rfl ?_
          refine x_icmp_ne (tgt := 59) C dX3_slots_52 (by decide) (fun c6 => ?_) (fun c6 => ?_)
          · have hf := hf.trans (if_neg c6)
            have hok := g_in c6 hok
            refine x_iconst (v := (0 : Int32)) C dX3_slots_59 (by decide) ?_
            refine x_iadd C dX3_slots_60 ?_
            obtain ⟨z7, hz7⟩ : ∃ y9 : Int32, y9 = (z.1 + (0 : Int32)) := ⟨_, rfl⟩
            have hf := hf.trans (g_let_eq hz7)
            have hok := g_let_p hz7 hok
            refine x_topi hz7 ?_
            refine x_istore_n (lv' := [(0, .ref (q 0)), (1, .int x1), (2, .int x2), (3, .int z7), (4, .int z.2), (5, .int (1 : Int32))]) C dX3_slots_61 rfl (by decide) [1, 2, 3, 0, 4, 5] rfl ?_
            obtain ⟨z8, hz8⟩ : ∃ y9 : Int32, y9 = (z.2 + (1 : Int32)) := ⟨_, rfl⟩
            have hf := hf.trans (g_let_eq hz8)
            have hok := g_let_p hz8 hok
            refine x_iinc (v := z8) (lv' := [(0, .ref (q 0)), (1, .int x1), (2, .int x2), (3, .int z7), (4, .int z8), (5, .int (1 : Int32))]) C dX3_slots_62 4 rfl hz8.symm (by decide) [1, 2, 3, 4, 0, 5] rfl ?_
            refine x_goto (tgt := 8) C dX3_slots_65 (by decide) ?_
            refine x_lv (lv' := [(0, .ref (q 0)), (1, .int x1), (2, .int x2), (3, .int z7), (4, .int z8)]) [0, 1, 2, 3, 4] rfl ?_
            exact ih ((z7, z8)) (rOk_t hnx hf) (fun z' hz => K0 z' ((run_t hf).trans hz))
          · have hf := hf.trans (if_pos c6)
            have hok := g_ip c6 hok
            refine x_iconst (v := (1 : Int32)) C dX3_slots_55 (by decide) ?_
            refine x_goto (tgt := 60) C dX3_slots_56 (by decide) ?_
            refine x_iadd C dX3_slots_60 ?_
            obtain ⟨z9, hz9⟩ : ∃ y9 : Int32, y9 = (z.1 + (1 : Int32)) := ⟨_, rfl⟩
            have hf := hf.trans (g_let_eq hz9)
            have hok := g_let_p hz9 hok
            refine x_topi hz9 ?_
            refine x_istore_n (lv' := [(0, .ref (q 0)), (1, .int x1), (2, .int x2), (3, .int z9), (4, .int z.2), (5, .int (1 : Int32))]) C dX3_slots_61 rfl (by decide) [1, 2, 3, 0, 4, 5] rfl ?_
            obtain ⟨z10, hz10⟩ : ∃ y9 : Int32, y9 = (z.2 + (1 : Int32)) := ⟨_, rfl⟩
            have hf := hf.trans (g_let_eq hz10)
            have hok := g_let_p hz10 hok
            refine x_iinc (v := z10) (lv' := [(0, .ref (q 0)), (1, .int x1), (2, .int x2), (3, .int z9), (4, .int z10), (5, .int (1 : Int32))]) C dX3_slots_62 4 rfl hz10.symm (by decide) [1, 2, 3, 4, 0, 5] rfl ?_
            refine x_goto (tgt := 8) C dX3_slots_65 (by decide) ?_
            refine x_lv (lv' := [(0, .ref (q 0)), (1, .int x1), (2, .int x2), (3, .int z9), (4, .int z10)]) [0, 1, 2, 3, 4] rfl ?_
            exact ih ((z9, z10)) (rOk_t hnx hf) (fun z' hz => K0 z' ((run_t hf).trans hz))
        · have hf := hf.trans (if_neg c5)
          have hok := g_in c5 hok
          refine x_iconst (v := (0 : Int32)) C dX3_slots_41 (by decide) ?_
          refine x_goto (tgt := 46) C dX3_slots_42 (by decide) ?_
          refine x_istore (lv' := [(0, .ref (q 0)), (1, .int x1), (2, .int x2), (3, .int z.1), (4, .int z.2), (5, .int (0 : Int32))]) C dX3_slots_46 (by decide) [1, 2, 3, 4, 5, 0] rfl ?_
          refine x_iload_n C dX3_slots_48 rfl 3 rfl ?_
          refine x_iload C dX3_slots_49 5 rfl ?_
          refine x_iload_n C dX3_slots_51 rfl 2 rfl ?_
          refine x_icmp_ne (tgt := 59) C dX3_slots_52 (by decide) (fun c11 => ?_) (fun c11 => ?_)
          · have hf := hf.trans (if_neg c11)
            have hok := g_in c11 hok
            refine x_iconst (v := (0 : Int32)) C dX3_slots_59 (by decide) ?_
            refine x_iadd C dX3_slots_60 ?_
            obtain ⟨z12, hz12⟩ : ∃ y9 : Int32, y9 = (z.1 + (0 : Int32)) := ⟨_, rfl⟩
            have hf := hf.trans (g_let_eq hz12)
            have hok := g_let_p hz12 hok
            refine x_topi hz12 ?_
            refine x_istore_n (lv' := [(0, .ref (q 0)), (1, .int x1), (2, .int x2), (3, .int z12), (4, .int z.2), (5, .int (0 : Int32))]) C dX3_slots_61 rfl (by decide) [1, 2, 3, 0, 4, 5] rfl ?_
            obtain ⟨z13, hz13⟩ : ∃ y9 : Int32, y9 = (z.2 + (1 : Int32)) := ⟨_, rfl⟩
            have hf := hf.trans (g_let_eq hz13)
            have hok := g_let_p hz13 hok
            refine x_iinc (v := z13) (lv' := [(0, .ref (q 0)), (1, .int x1), (2, .int x2), (3, .int z12), (4, .int z13), (5, .int (0 : Int32))]) C dX3_slots_62 4 rfl hz13.symm (by decide) [1, 2, 3, 4, 0, 5] rfl ?_
            refine x_goto (tgt := 8) C dX3_slots_65 (by decide) ?_
            refine x_lv (lv' := [(0, .ref (q 0)), (1, .int x1), (2, .int x2), (3, .int z12), (4, .int z13)]) [0, 1, 2, 3, 4] rfl ?_
            exact ih ((z12, z13)) (rOk_t hnx hf) (fun z' hz => K0 z' ((run_t hf).trans hz))
          · have hf := hf.trans (if_pos c11)
            have hok := g_ip c11 hok
            refine x_iconst (v := (1 : Int32)) C dX3_slots_55 (by decide) ?_
            refine x_goto (tgt := 60) C dX3_slots_56 (by decide) ?_
            refine x_iadd C dX3_slots_60 ?_
            obtain ⟨z14, hz14⟩ : ∃ y9 : Int32, y9 = (z.1 + (1 : Int32)) := ⟨_, rfl⟩
            have hf := hf.trans (g_let_eq hz14)
            have hok := g_let_p hz14 hok
            refine x_topi hz14 ?_
            refine x_istore_n (lv' := [(0, .ref (q 0)), (1, .int x1), (2, .int x2), (3, .int z14), (4, .int z.2), (5, .int (0 : Int32))]) C dX3_slots_61 rfl (by decide) [1, 2, 3, 0, 4, 5] rfl ?_
            obtain ⟨z15, hz15⟩ : ∃ y9 : Int32, y9 = (z.2 + (1 : Int32)) := ⟨_, rfl⟩
            have hf := hf.trans (g_let_eq hz15)
            have hok := g_let_p hz15 hok
            refine x_iinc (v := z15) (lv' := [(0, .ref (q 0)), (1, .int x1), (2, .int x2), (3, .int z14), (4, .int z15), (5, .int (0 : Int32))]) C dX3_slots_62 4 rfl hz15.symm (by decide) [1, 2, 3, 4, 0, 5] rfl ?_
            refine x_goto (tgt := 8) C dX3_slots_65 (by decide) ?_
            refine x_lv (lv' := [(0, .ref (q 0)), (1, .int x1), (2, .int x2), (3, .int z14), (4, .int z15)]) [0, 1, 2, 3, 4] rfl ?_
            exact ih ((z14, z15)) (rOk_t hnx hf) (fun z' hz => K0 z' ((run_t hf).trans hz))
      · have hf := hf.trans (if_pos c3)
        have hok := g_ip c3 hok
        refine x_iconst (v := (2 : Int32)) C dX3_slots_28 (by decide) ?_
        refine x_goto (tgt := 46) C dX3_slots_29 (by decide) ?_
        refine x_istore (lv' := [(0, .ref (q 0)), (1, .int x1), (2, .int x2), (3, .int z.1), (4, .int z.2), (5, .int (2 : Int32))]) C dX3_slots_46 (by decide) [1, 2, 3, 4, 5, 0] rfl ?_
        refine x_iload_n C dX3_slots_48 rfl 3 rfl ?_
        refine x_iload C dX3_slots_49 5 rfl ?_
        refine x_iload_n C dX3_slots_51 rfl 2 rfl ?_
        refine x_icmp_ne (tgt := 59) C dX3_slots_52 (by decide) (fun c16 => ?_) (fun c16 => ?_)
        · have hf := hf.trans (if_neg c16)
          have hok := g_in c16 hok
          refine x_iconst (v := (0 : Int32)) C dX3_slots_59 (by decide) ?_
          refine x_iadd C dX3_slots_60 ?_
          obtain ⟨z17, hz17⟩ : ∃ y9 : Int32, y9 = (z.1 + (0 : Int32)) := ⟨_, rfl⟩
          have hf := hf.trans (g_let_eq hz17)
          have hok := g_let_p hz17 hok
          refine x_topi hz17 ?_
          refine x_istore_n (lv' := [(0, .ref (q 0)), (1, .int x1), (2, .int x2), (3, .int z17), (4, .int z.2), (5, .int (2 : Int32))]) C dX3_slots_61 rfl (by decide) [1, 2, 3, 0, 4, 5] rfl ?_
          obtain ⟨z18, hz18⟩ : ∃ y9 : Int32, y9 = (z.2 + (1 : Int32)) := ⟨_, rfl⟩
          have hf := hf.trans (g_let_eq hz18)
          have hok := g_let_p hz18 hok
          refine x_iinc (v := z18) (lv' := [(0, .ref (q 0)), (1, .int x1), (2, .int x2), (3, .int z17), (4, .int z18), (5, .int (2 : Int32))]) C dX3_slots_62 4 rfl hz18.symm (by decide) [1, 2, 3, 4, 0, 5] rfl ?_
          refine x_goto (tgt := 8) C dX3_slots_65 (by decide) ?_
          refine x_lv (lv' := [(0, .ref (q 0)), (1, .int x1), (2, .int x2), (3, .int z17), (4, .int z18)]) [0, 1, 2, 3, 4] rfl ?_
          exact ih ((z17, z18)) (rOk_t hnx hf) (fun z' hz => K0 z' ((run_t hf).trans hz))
        · have hf := hf.trans (if_pos c16)
          have hok := g_ip c16 hok
          refine x_iconst (v := (1 : Int32)) C dX3_slots_55 (by decide) ?_
          refine x_goto (tgt := 60) C dX3_slots_56 (by decide) ?_
          refine x_iadd C dX3_slots_60 ?_
          obtain ⟨z19, hz19⟩ : ∃ y9 : Int32, y9 = (z.1 + (1 : Int32)) := ⟨_, rfl⟩
          have hf := hf.trans (g_let_eq hz19)
          have hok := g_let_p hz19 hok
          refine x_topi hz19 ?_
          refine x_istore_n (lv' := [(0, .ref (q 0)), (1, .int x1), (2, .int x2), (3, .int z19), (4, .int z.2), (5, .int (2 : Int32))]) C dX3_slots_61 rfl (by decide) [1, 2, 3, 0, 4, 5] rfl ?_
          obtain ⟨z20, hz20⟩ : ∃ y9 : Int32, y9 = (z.2 + (1 : Int32)) := ⟨_, rfl⟩
          have hf := hf.trans (g_let_eq hz20)
          have hok := g_let_p hz20 hok
          refine x_iinc (v := z20) (lv' := [(0, .ref (q 0)), (1, .int x1), (2, .int x2), (3, .int z19), (4, .int z20), (5, .int (2 : Int32))]) C dX3_slots_62 4 rfl hz20.symm (by decide) [1, 2, 3, 4, 0, 5] rfl ?_
          refine x_goto (tgt := 8) C dX3_slots_65 (by decide) ?_
          refine x_lv (lv' := [(0, .ref (q 0)), (1, .int x1), (2, .int x2), (3, .int z19), (4, .int z20)]) [0, 1, 2, 3, 4] rfl ?_
          exact ih ((z19, z20)) (rOk_t hnx hf) (fun z' hz => K0 z' ((run_t hf).trans hz))
noncomputable def f_r_slots (m : gM) (a1 : Int32) (a2 : Int32) : Int32 := g_let (((8 : Int32) * a1)) (fun z1 : Int32 => g_let (run (L_r_slots_8 m a1 a2) 400 (((0 : Int32), z1))) (fun z3 : Int32 × Int32 => z3.1))
noncomputable def o_r_slots (m : gM) (a1 : Int32) (a2 : Int32) : Prop := g_let (((8 : Int32) * a1)) (fun z1 : Int32 => (rOk (L_r_slots_8 m a1 a2) (K_r_slots_8 m a1 a2) 400 (((0 : Int32), z1))) ∧ (g_let (run (L_r_slots_8 m a1 a2) 400 (((0 : Int32), z1))) (fun z3 : Int32 × Int32 => True)))
set_option maxRecDepth 100000 in
set_option maxHeartbeats 4000000 in
theorem c_r_slots (l : Launch) (G : gG) (q : Nat → Nat) (m : gM) (h : gN) (a1 : Int32) (a2 : Int32) (hok : o_r_slots m a1 a2) : gMi l yX3_slots wsX3_slots rm_r_slots G shr q m h [.ref (q 0), .int a1, .int a2] m h (f_r_slots m a1 a2) := by
  intro sz
  refine g_met (cc := cX3_slots) (maxL := 6) (ret := (some .int)) (own := RX3) (Qc := fun sz => gQi G shr q m h sz (f_r_slots m a1 a2)) (by decide) rfl rfl (Nat.le_of_ble_eq_true rfl) (fun p e s m9 below meth c C hq hr => ?_)
  refine x_lv (lv' := [(0, .ref (q 0)), (1, .int a1), (2, .int a2)]) [0, 1, 2] rfl ?_
  have hf := f_r_slots.eq_1 m a1 a2
  have hok := Eq.mp (o_r_slots.eq_1 m a1 a2) hok
  refine x_iconst (v := (0 : Int32)) C dX3_slots_0 (by decide) ?_
  refine x_istore_n (lv' := [(0, .ref (q 0)), (1, .int a1), (2, .int a2), (3, .int (0 : Int32))]) C dX3_slots_1 rfl (by decide) [1, 2, 3, 0] rfl ?_
  refine x_bipush (v := (8 : Int32)) C dX3_slots_2 (by decide) ?_
  refine x_iload_n C dX3_slots_4 rfl 1 rfl ?_
  refine x_imul C dX3_slots_5 ?_
  obtain ⟨z1, hz1⟩ : ∃ y9 : Int32, y9 = ((8 : Int32) * a1) := ⟨_, rfl⟩
  have hf := hf.trans (g_let_eq hz1)
  have hok := g_let_p hz1 hok
  refine x_topi hz1 ?_
  refine x_istore (lv' := [(0, .ref (q 0)), (1, .int a1), (2, .int a2), (3, .int (0 : Int32)), (4, .int z1)]) C dX3_slots_6 (by decide) [1, 2, 3, 4, 0] rfl ?_
  have s2 := And.left hok
  have hok := And.right hok
  refine lp_r_slots_8 C hq m h a1 a2 400 (((0 : Int32), z1)) s2 (fun z3 hz3 => ?_)
  have hf := hf.trans (g_let_eq hz3.symm)
  have hok := g_let_p hz3.symm hok
  refine x_iload_n C dX3_slots_68 rfl 3 rfl ?_
  exact g_iret C hr rfl dX3_slots_69 hf.symm rfl rfl
abbrev rm_r_inState : Room := { frames := 0, cells := 0, slots := 0, locals := 0 }
noncomputable def L_r_inState_4 (m : gM) (x1 : Int32) (z : Int32 × Int32) : Bool × (Int32 × Int32) := (if (12 : Int32) ≤ z.2 then (false, (z.1, z.2)) else (if (m 0 ((96 : Int32) + z.2).toNatClampNeg) = x1 then g_let ((z.1 + (1 : Int32))) (fun z6 : Int32 => g_let ((z.2 + (1 : Int32))) (fun z7 : Int32 => (true, (z6, z7)))) else g_let ((z.1 + (0 : Int32))) (fun z4 : Int32 => g_let ((z.2 + (1 : Int32))) (fun z5 : Int32 => (true, (z4, z5))))))
noncomputable def K_r_inState_4 (m : gM) (x1 : Int32) (z : Int32 × Int32) : Prop := (if (12 : Int32) ≤ z.2 then True else (vp_in ((96 : Int32) + z.2) 364) ∧ ((if (m 0 ((96 : Int32) + z.2).toNatClampNeg) = x1 then g_let ((z.1 + (1 : Int32))) (fun z6 : Int32 => g_let ((z.2 + (1 : Int32))) (fun z7 : Int32 => True)) else g_let ((z.1 + (0 : Int32))) (fun z4 : Int32 => g_let ((z.2 + (1 : Int32))) (fun z5 : Int32 => True)))))
set_option maxRecDepth 100000 in
set_option maxHeartbeats 4000000 in
theorem lp_r_inState_4 {p : Program} {l : Launch} {e : Env} {s : State} {m9 : MethodId} {args : Array Value} {below : List Frame} {meth : Method} {c : Code} {G : gG} {A : Nat → Prop} {Q : State → Prop} {q : Nat → Nat} (C : xC p s m9 args meth c G A 4 cX3_inState RX3 wsX3_inState) (hq : gD A q shr.length) (m : gM) (h : gN) (x1 : Int32) : ∀ (n : Nat) (z : Int32 × Int32), rOk (L_r_inState_4 m x1) (K_r_inState_4 m x1) n z → (∀ z' : Int32 × Int32, run (L_r_inState_4 m x1) n z = z' → xJ p l e rm_r_inState s m9 args below meth c G A 4 Q 0 0 shr q m h [(0, .ref (q 0)), (1, .int x1), (2, .int z'.1), (3, .int z'.2)] [] 34) → xJ p l e rm_r_inState s m9 args below meth c G A 4 Q 0 0 shr q m h [(0, .ref (q 0)), (1, .int x1), (2, .int z.1), (3, .int z.2)] [] 4 := by
  intro n
  induction n with
  | zero =>
    intro z hok _
    exact rOk_0 hok
  | succ n ih =>
    intro z hok K0
    have hnx := rOk_2 hok
    have hok := rOk_1 hok
    have hf := L_r_inState_4.eq_1 m x1 z
    have hok := Eq.mp (K_r_inState_4.eq_1 m x1 z) hok
    refine x_iload_n C dX3_inState_4 rfl 3 rfl ?_
    refine x_bipush (v := (12 : Int32)) C dX3_inState_5 (by decide) ?_
    refine x_icmp_ge (tgt := 34) C dX3_inState_7 (by decide) (fun c1 => ?_) (fun c1 => ?_)
    · have hf := hf.trans (if_pos c1)
      have hok := g_ip c1 hok
      exact K0 ((z.1, z.2)) (run_f hf)
    · have hf := hf.trans (if_neg c1)
      have hok := g_in c1 hok
      refine x_iload_n C dX3_inState_10 rfl 2 rfl ?_
      refine x_aload_n C dX3_inState_11 rfl 0 rfl ?_
      refine x_bipush (v := (96 : Int32)) C dX3_inState_12 (by decide) ?_
      refine x_iload_n C dX3_inState_14 rfl 3 rfl ?_
      refine x_iadd C dX3_inState_15 ?_
      have s2 := And.left hok
      have hok := And.right hok
      refine x_iald (n := 364) (v := (m 0 ((96 : Int32) + z.2).toNatClampNeg)) C 0 rfl s2 rfl dX3_inState_16 ?_
      refine x_iload_n C dX3_inState_17 rfl 1 rfl ?_
      refine x_icmp_ne (tgt := 25) C dX3_inState_18 (by decide) (fun c3 => ?_) (fun c3 => ?_)
      · have hf := hf.trans (if_neg c3)
        have hok := g_in c3 hok
        refine x_iconst (v := (0 : Int32)) C dX3_inState_25 (by decide) ?_
        refine x_iadd C dX3_inState_26 ?_
        obtain ⟨z4, hz4⟩ : ∃ y9 : Int32, y9 = (z.1 + (0 : Int32)) := ⟨_, rfl⟩
        have hf := hf.trans (g_let_eq hz4)
        have hok := g_let_p hz4 hok
        refine x_topi hz4 ?_
        refine x_istore_n (lv' := [(0, .ref (q 0)), (1, .int x1), (2, .int z4), (3, .int z.2)]) C dX3_inState_27 rfl (by decide) [1, 2, 0, 3] rfl ?_
        obtain ⟨z5, hz5⟩ : ∃ y9 : Int32, y9 = (z.2 + (1 : Int32)) := ⟨_, rfl⟩
        have hf := hf.trans (g_let_eq hz5)
        have hok := g_let_p hz5 hok
        refine x_iinc (v := z5) (lv' := [(0, .ref (q 0)), (1, .int x1), (2, .int z4), (3, .int z5)]) C dX3_inState_28 3 rfl hz5.symm (by decide) [1, 2, 3, 0] rfl ?_
        refine x_goto (tgt := 4) C dX3_inState_31 (by decide) ?_
        exact ih ((z4, z5)) (rOk_t hnx hf) (fun z' hz => K0 z' ((run_t hf).trans hz))
      · have hf := hf.trans (if_pos c3)
        have hok := g_ip c3 hok
        refine x_iconst (v := (1 : Int32)) C dX3_inState_21 (by decide) ?_
        refine x_goto (tgt := 26) C dX3_inState_22 (by decide) ?_
        refine x_iadd C dX3_inState_26 ?_
        obtain ⟨z6, hz6⟩ : ∃ y9 : Int32, y9 = (z.1 + (1 : Int32)) := ⟨_, rfl⟩
        have hf := hf.trans (g_let_eq hz6)
        have hok := g_let_p hz6 hok
        refine x_topi hz6 ?_
        refine x_istore_n (lv' := [(0, .ref (q 0)), (1, .int x1), (2, .int z6), (3, .int z.2)]) C dX3_inState_27 rfl (by decide) [1, 2, 0, 3] rfl ?_
        obtain ⟨z7, hz7⟩ : ∃ y9 : Int32, y9 = (z.2 + (1 : Int32)) := ⟨_, rfl⟩
        have hf := hf.trans (g_let_eq hz7)
        have hok := g_let_p hz7 hok
        refine x_iinc (v := z7) (lv' := [(0, .ref (q 0)), (1, .int x1), (2, .int z6), (3, .int z7)]) C dX3_inState_28 3 rfl hz7.symm (by decide) [1, 2, 3, 0] rfl ?_
        refine x_goto (tgt := 4) C dX3_inState_31 (by decide) ?_
        exact ih ((z6, z7)) (rOk_t hnx hf) (fun z' hz => K0 z' ((run_t hf).trans hz))
noncomputable def f_r_inState (m : gM) (a1 : Int32) : Int32 := g_let (run (L_r_inState_4 m a1) 400 (((0 : Int32), (0 : Int32)))) (fun z2 : Int32 × Int32 => z2.1)
noncomputable def o_r_inState (m : gM) (a1 : Int32) : Prop := (rOk (L_r_inState_4 m a1) (K_r_inState_4 m a1) 400 (((0 : Int32), (0 : Int32)))) ∧ (g_let (run (L_r_inState_4 m a1) 400 (((0 : Int32), (0 : Int32)))) (fun z2 : Int32 × Int32 => True))
set_option maxRecDepth 100000 in
set_option maxHeartbeats 4000000 in
theorem c_r_inState (l : Launch) (G : gG) (q : Nat → Nat) (m : gM) (h : gN) (a1 : Int32) (hok : o_r_inState m a1) : gMi l yX3_inState wsX3_inState rm_r_inState G shr q m h [.ref (q 0), .int a1] m h (f_r_inState m a1) := by
  intro sz
  refine g_met (cc := cX3_inState) (maxL := 4) (ret := (some .int)) (own := RX3) (Qc := fun sz => gQi G shr q m h sz (f_r_inState m a1)) (by decide) rfl rfl (Nat.le_of_ble_eq_true rfl) (fun p e s m9 below meth c C hq hr => ?_)
  refine x_lv (lv' := [(0, .ref (q 0)), (1, .int a1)]) [0, 1] rfl ?_
  have hf := f_r_inState.eq_1 m a1
  have hok := Eq.mp (o_r_inState.eq_1 m a1) hok
  refine x_iconst (v := (0 : Int32)) C dX3_inState_0 (by decide) ?_
  refine x_istore_n (lv' := [(0, .ref (q 0)), (1, .int a1), (2, .int (0 : Int32))]) C dX3_inState_1 rfl (by decide) [1, 2, 0] rfl ?_
  refine x_iconst (v := (0 : Int32)) C dX3_inState_2 (by decide) ?_
  refine x_istore_n (lv' := [(0, .ref (q 0)), (1, .int a1), (2, .int (0 : Int32)), (3, .int (0 : Int32))]) C dX3_inState_3 rfl (by decide) [1, 2, 3, 0] rfl ?_
  have s1 := And.left hok
  have hok := And.right hok
  refine lp_r_inState_4 C hq m h a1 400 (((0 : Int32), (0 : Int32))) s1 (fun z2 hz2 => ?_)
  have hf := hf.trans (g_let_eq hz2.symm)
  have hok := g_let_p hz2.symm hok
  refine x_iload_n C dX3_inState_34 rfl 2 rfl ?_
  exact g_iret C hr rfl dX3_inState_35 hf.symm rfl rfl
abbrev rm_r_freshBlock : Room := { frames := 0, cells := 0, slots := 0, locals := 0 }
noncomputable def L_r_freshBlock_4 (m : gM) (z : Int32 × Int32) : Bool × (Int32 × Int32) := (if (12 : Int32) ≤ z.2 then (false, (z.1, z.2)) else (if (m 0 ((96 : Int32) + z.2).toNatClampNeg) = 0 then (if z.1 = (-1 : Int32) then g_let ((z.2 + (1 : Int32))) (fun z6 : Int32 => (true, (z.2, z6))) else (if (m 0 ((120 : Int32) + z.1).toNatClampNeg) ≤ (m 0 ((120 : Int32) + z.2).toNatClampNeg) then g_let ((z.2 + (1 : Int32))) (fun z10 : Int32 => (true, (z.1, z10))) else g_let ((z.2 + (1 : Int32))) (fun z11 : Int32 => (true, (z.2, z11))))) else g_let ((z.2 + (1 : Int32))) (fun z4 : Int32 => (true, (z.1, z4)))))
noncomputable def K_r_freshBlock_4 (m : gM) (z : Int32 × Int32) : Prop := (if (12 : Int32) ≤ z.2 then True else (vp_in ((96 : Int32) + z.2) 364) ∧ ((if (m 0 ((96 : Int32) + z.2).toNatClampNeg) = 0 then (if z.1 = (-1 : Int32) then g_let ((z.2 + (1 : Int32))) (fun z6 : Int32 => True) else (vp_in ((120 : Int32) + z.2) 364) ∧ ((vp_in ((120 : Int32) + z.1) 364) ∧ ((if (m 0 ((120 : Int32) + z.1).toNatClampNeg) ≤ (m 0 ((120 : Int32) + z.2).toNatClampNeg) then g_let ((z.2 + (1 : Int32))) (fun z10 : Int32 => True) else g_let ((z.2 + (1 : Int32))) (fun z11 : Int32 => True))))) else g_let ((z.2 + (1 : Int32))) (fun z4 : Int32 => True))))
set_option maxRecDepth 100000 in
set_option maxHeartbeats 4000000 in
theorem lp_r_freshBlock_4 {p : Program} {l : Launch} {e : Env} {s : State} {m9 : MethodId} {args : Array Value} {below : List Frame} {meth : Method} {c : Code} {G : gG} {A : Nat → Prop} {Q : State → Prop} {q : Nat → Nat} (C : xC p s m9 args meth c G A 4 cX3_freshBlock RX3 wsX3_freshBlock) (hq : gD A q shr.length) (m : gM) (h : gN) : ∀ (n : Nat) (z : Int32 × Int32), rOk (L_r_freshBlock_4 m) (K_r_freshBlock_4 m) n z → (∀ z' : Int32 × Int32, run (L_r_freshBlock_4 m) n z = z' → xJ p l e rm_r_freshBlock s m9 args below meth c G A 4 Q 0 0 shr q m h [(0, .ref (q 0)), (1, .int z'.1), (2, .int z'.2)] [] 61) → xJ p l e rm_r_freshBlock s m9 args below meth c G A 4 Q 0 0 shr q m h [(0, .ref (q 0)), (1, .int z.1), (2, .int z.2)] [] 4 := by
  intro n
  induction n with
  | zero =>
    intro z hok _
    exact rOk_0 hok
  | succ n ih =>
    intro z hok K0
    have hnx := rOk_2 hok
    have hok := rOk_1 hok
    have hf := L_r_freshBlock_4.eq_1 m z
    have hok := Eq.mp (K_r_freshBlock_4.eq_1 m z) hok
    refine x_iload_n C dX3_freshBlock_4 rfl 2 rfl ?_
    refine x_bipush (v := (12 : Int32)) C dX3_freshBlock_5 (by decide) ?_
    refine x_icmp_ge (tgt := 61) C dX3_freshBlock_7 (by decide) (fun c1 => ?_) (fun c1 => ?_)
    · have hf := hf.trans (if_pos c1)
      have hok := g_ip c1 hok
      exact K0 ((z.1, z.2)) (run_f hf)
    · have hf := hf.trans (if_neg c1)
      have hok := g_in c1 hok
      refine x_aload_n C dX3_freshBlock_10 rfl 0 rfl ?_
      refine x_bipush (v := (96 : Int32)) C dX3_freshBlock_11 (by decide) ?_
      refine x_iload_n C dX3_freshBlock_13 rfl 2 rfl ?_
      refine x_iadd C dX3_freshBlock_14 ?_
      have s2 := And.left hok
      have hok := And.right hok
      refine x_iald (n := 364) (v := (m 0 ((96 : Int32) + z.2).toNatClampNeg)) C 0 rfl s2 rfl dX3_freshBlock_15 ?_
      refine x_if_ne (tgt := 43) C dX3_freshBlock_16 (by decide) (fun c3 => ?_) (fun c3 => ?_)
      · have hf := hf.trans (if_neg c3)
        have hok := g_in c3 hok
        refine x_iconst (v := (0 : Int32)) C dX3_freshBlock_43 (by decide) ?_
        refine x_istore_n (lv' := [(0, .ref (q 0)), (1, .int z.1), (2, .int z.2), (3, .int (0 : Int32))]) C dX3_freshBlock_44 rfl (by decide) [1, 2, 3, 0] rfl ?_
        refine x_iload_n C dX3_freshBlock_45 rfl 3 rfl ?_
        refine x_if_eq (tgt := 53) C dX3_freshBlock_46 (by decide) (fun _ => ?_) (fun c9 => absurd c9 (by decide))
        refine x_iload_n C dX3_freshBlock_53 rfl 1 rfl ?_
        refine x_istore_n (lv' := [(0, .ref (q 0)), (1, .int z.1), (2, .int z.2), (3, .int (0 : Int32))]) C dX3_freshBlock_54 rfl (by decide) [1, 0, 2, 3] rfl ?_
        obtain ⟨z4, hz4⟩ : ∃ y9 : Int32, y9 = (z.2 + (1 : Int32)) := ⟨_, rfl⟩
        have hf := hf.trans (g_let_eq hz4)
        have hok := g_let_p hz4 hok
        refine x_iinc (v := z4) (lv' := [(0, .ref (q 0)), (1, .int z.1), (2, .int z4), (3, .int (0 : Int32))]) C dX3_freshBlock_55 2 rfl hz4.symm (by decide) [1, 2, 0, 3] rfl ?_
        refine x_goto (tgt := 4) C dX3_freshBlock_58 (by decide) ?_
        refine x_lv (lv' := [(0, .ref (q 0)), (1, .int z.1), (2, .int z4)]) [0, 1, 2] rfl ?_
        exact ih ((z.1, z4)) (rOk_t hnx hf) (fun z' hz => K0 z' ((run_t hf).trans hz))
      · have hf := hf.trans (if_pos c3)
        have hok := g_ip c3 hok
        refine x_iload_n C dX3_freshBlock_19 rfl 1 rfl ?_
        refine x_iconst (v := (-1 : Int32)) C dX3_freshBlock_20 (by decide) ?_
        refine x_icmp_eq (tgt := 39) C dX3_freshBlock_21 (by decide) (fun c5 => ?_) (fun c5 => ?_)
        · have hf := hf.trans (if_pos c5)
          have hok := g_ip c5 hok
          refine x_iconst (v := (1 : Int32)) C dX3_freshBlock_39 (by decide) ?_
          refine x_goto (tgt := 44) C dX3_freshBlock_40 (by decide) ?_
          refine x_istore_n (lv' := [(0, .ref (q 0)), (1, .int z.1), (2, .int z.2), (3, .int (1 : Int32))]) C dX3_freshBlock_44 rfl (by decide) [1, 2, 3, 0] rfl ?_
          refine x_iload_n C dX3_freshBlock_45 rfl 3 rfl ?_
          refine x_if_eq (tgt := 53) C dX3_freshBlock_46 (by decide) (fun c9 => absurd c9 (by decide)) (fun _ => ?_)
          refine x_iload_n C dX3_freshBlock_49 rfl 2 rfl ?_
          refine x_goto (tgt := 54) C dX3_freshBlock_50 (by decide) ?_
          refine x_istore_n (lv' := [(0, .ref (q 0)), (1, .int z.2), (2, .int z.2), (3, .int (1 : Int32))]) C dX3_freshBlock_54 rfl (by decide) [1, 0, 2, 3] rfl ?_
          obtain ⟨z6, hz6⟩ : ∃ y9 : Int32, y9 = (z.2 + (1 : Int32)) := ⟨_, rfl⟩
          have hf := hf.trans (g_let_eq hz6)
          have hok := g_let_p hz6 hok
          refine x_iinc (v := z6) (lv' := [(0, .ref (q 0)), (1, .int z.2), (2, .int z6), (3, .int (1 : Int32))]) C dX3_freshBlock_55 2 rfl hz6.symm (by decide) [1, 2, 0, 3] rfl ?_
          refine x_goto (tgt := 4) C dX3_freshBlock_58 (by decide) ?_
          refine x_lv (lv' := [(0, .ref (q 0)), (1, .int z.2), (2, .int z6)]) [0, 1, 2] rfl ?_
          exact ih ((z.2, z6)) (rOk_t hnx hf) (fun z' hz => K0 z' ((run_t hf).trans hz))
        · have hf := hf.trans (if_neg c5)
          have hok := g_in c5 hok
          refine x_aload_n C dX3_freshBlock_24 rfl 0 rfl ?_
          refine x_bipush (v := (120 : Int32)) C dX3_freshBlock_25 (by decide) ?_
          refine x_iload_n C dX3_freshBlock_27 rfl 2 rfl ?_
          refine x_iadd C dX3_freshBlock_28 ?_
          have s7 := And.left hok
          have hok := And.right hok
          refine x_iald (n := 364) (v := (m 0 ((120 : Int32) + z.2).toNatClampNeg)) C 0 rfl s7 rfl dX3_freshBlock_29 ?_
          refine x_aload_n C dX3_freshBlock_30 rfl 0 rfl ?_
          refine x_bipush (v := (120 : Int32)) C dX3_freshBlock_31 (by decide) ?_
          refine x_iload_n C dX3_freshBlock_33 rfl 1 rfl ?_
          refine x_iadd C dX3_freshBlock_34 ?_
          have s8 := And.left hok
          have hok := And.right hok
          refine x_iald (n := 364) (v := (m 0 ((120 : Int32) + z.1).toNatClampNeg)) C 0 rfl s8 rfl dX3_freshBlock_35 ?_
          refine x_icmp_ge (tgt := 43) C dX3_freshBlock_36 (by decide) (fun c9 => ?_) (fun c9 => ?_)
          · have hf := hf.trans (if_pos c9)
            have hok := g_ip c9 hok
            refine x_iconst (v := (0 : Int32)) C dX3_freshBlock_43 (by decide) ?_
            refine x_istore_n (lv' := [(0, .ref (q 0)), (1, .int z.1), (2, .int z.2), (3, .int (0 : Int32))]) C dX3_freshBlock_44 rfl (by decide) [1, 2, 3, 0] rfl ?_
            refine x_iload_n C dX3_freshBlock_45 rfl 3 rfl ?_
            refine x_if_eq (tgt := 53) C dX3_freshBlock_46 (by decide) (fun _ => ?_) (fun c9 => absurd c9 (by decide))
            refine x_iload_n C dX3_freshBlock_53 rfl 1 rfl ?_
            refine x_istore_n (lv' := [(0, .ref (q 0)), (1, .int z.1), (2, .int z.2), (3, .int (0 : Int32))]) C dX3_freshBlock_54 rfl (by decide) [1, 0, 2, 3] rfl ?_
            obtain ⟨z10, hz10⟩ : ∃ y9 : Int32, y9 = (z.2 + (1 : Int32)) := ⟨_, rfl⟩
            have hf := hf.trans (g_let_eq hz10)
            have hok := g_let_p hz10 hok
            refine x_iinc (v := z10) (lv' := [(0, .ref (q 0)), (1, .int z.1), (2, .int z10), (3, .int (0 : Int32))]) C dX3_freshBlock_55 2 rfl hz10.symm (by decide) [1, 2, 0, 3] rfl ?_
            refine x_goto (tgt := 4) C dX3_freshBlock_58 (by decide) ?_
            refine x_lv (lv' := [(0, .ref (q 0)), (1, .int z.1), (2, .int z10)]) [0, 1, 2] rfl ?_
            exact ih ((z.1, z10)) (rOk_t hnx hf) (fun z' hz => K0 z' ((run_t hf).trans hz))
          · have hf := hf.trans (if_neg c9)
            have hok := g_in c9 hok
            refine x_iconst (v := (1 : Int32)) C dX3_freshBlock_39 (by decide) ?_
            refine x_goto (tgt := 44) C dX3_freshBlock_40 (by decide) ?_
            refine x_istore_n (lv' := [(0, .ref (q 0)), (1, .int z.1), (2, .int z.2), (3, .int (1 : Int32))]) C dX3_freshBlock_44 rfl (by decide) [1, 2, 3, 0] rfl ?_
            refine x_iload_n C dX3_freshBlock_45 rfl 3 rfl ?_
            refine x_if_eq (tgt := 53) C dX3_freshBlock_46 (by decide) (fun c9 => absurd c9 (by decide)) (fun _ => ?_)
            refine x_iload_n C dX3_freshBlock_49 rfl 2 rfl ?_
            refine x_goto (tgt := 54) C dX3_freshBlock_50 (by decide) ?_
            refine x_istore_n (lv' := [(0, .ref (q 0)), (1, .int z.2), (2, .int z.2), (3, .int (1 : Int32))]) C dX3_freshBlock_54 rfl (by decide) [1, 0, 2, 3] rfl ?_
            obtain ⟨z11, hz11⟩ : ∃ y9 : Int32, y9 = (z.2 + (1 : Int32)) := ⟨_, rfl⟩
            have hf := hf.trans (g_let_eq hz11)
            have hok := g_let_p hz11 hok
            refine x_iinc (v := z11) (lv' := [(0, .ref (q 0)), (1, .int z.2), (2, .int z11), (3, .int (1 : Int32))]) C dX3_freshBlock_55 2 rfl hz11.symm (by decide) [1, 2, 0, 3] rfl ?_
            refine x_goto (tgt := 4) C dX3_freshBlock_58 (by decide) ?_
            refine x_lv (lv' := [(0, .ref (q 0)), (1, .int z.2), (2, .int z11)]) [0, 1, 2] rfl ?_
            exact ih ((z.2, z11)) (rOk_t hnx hf) (fun z' hz => K0 z' ((run_t hf).trans hz))
noncomputable def f_r_freshBlock (m : gM) : Int32 := g_let (run (L_r_freshBlock_4 m) 400 (((-1 : Int32), (0 : Int32)))) (fun z2 : Int32 × Int32 => z2.1)
noncomputable def o_r_freshBlock (m : gM) : Prop := (rOk (L_r_freshBlock_4 m) (K_r_freshBlock_4 m) 400 (((-1 : Int32), (0 : Int32)))) ∧ (g_let (run (L_r_freshBlock_4 m) 400 (((-1 : Int32), (0 : Int32)))) (fun z2 : Int32 × Int32 => True))
set_option maxRecDepth 100000 in
set_option maxHeartbeats 4000000 in
theorem c_r_freshBlock (l : Launch) (G : gG) (q : Nat → Nat) (m : gM) (h : gN) (hok : o_r_freshBlock m) : gMi l yX3_freshBlock wsX3_freshBlock rm_r_freshBlock G shr q m h [.ref (q 0)] m h (f_r_freshBlock m) := by
  intro sz
  refine g_met (cc := cX3_freshBlock) (maxL := 4) (ret := (some .int)) (own := RX3) (Qc := fun sz => gQi G shr q m h sz (f_r_freshBlock m)) (by decide) rfl rfl (Nat.le_of_ble_eq_true rfl) (fun p e s m9 below meth c C hq hr => ?_)
  refine x_lv (lv' := [(0, .ref (q 0))]) [0] rfl ?_
  have hf := f_r_freshBlock.eq_1 m
  have hok := Eq.mp (o_r_freshBlock.eq_1 m) hok
  refine x_iconst (v := (-1 : Int32)) C dX3_freshBlock_0 (by decide) ?_
  refine x_istore_n (lv' := [(0, .ref (q 0)), (1, .int (-1 : Int32))]) C dX3_freshBlock_1 rfl (by decide) [1, 0] rfl ?_
  refine x_iconst (v := (0 : Int32)) C dX3_freshBlock_2 (by decide) ?_
  refine x_istore_n (lv' := [(0, .ref (q 0)), (1, .int (-1 : Int32)), (2, .int (0 : Int32))]) C dX3_freshBlock_3 rfl (by decide) [1, 2, 0] rfl ?_
  have s1 := And.left hok
  have hok := And.right hok
  refine lp_r_freshBlock_4 C hq m h 400 (((-1 : Int32), (0 : Int32))) s1 (fun z2 hz2 => ?_)
  have hf := hf.trans (g_let_eq hz2.symm)
  have hok := g_let_p hz2.symm hok
  refine x_iload_n C dX3_freshBlock_61 rfl 1 rfl ?_
  exact g_iret C hr rfl dX3_freshBlock_62 hf.symm rfl rfl
abbrev rm_r_programs : Room := { frames := 1, cells := 0, slots := 0, locals := 23 }
noncomputable def L_r_programs_58 (m : gM) (x1 : Int32) (x2 : Int32) (x3 : Int32) (z : Int32) : Bool × (Int32) := (if (m 0 z.toNatClampNeg) = (-1 : Int32) then (false, z) else g_let ((z + (1 : Int32))) (fun z3 : Int32 => (true, z3)))
noncomputable def K_r_programs_58 (m : gM) (x1 : Int32) (x2 : Int32) (x3 : Int32) (z : Int32) : Prop := (vp_in z 364) ∧ ((if (m 0 z.toNatClampNeg) = (-1 : Int32) then True else g_let ((z + (1 : Int32))) (fun z3 : Int32 => True)))
set_option maxRecDepth 100000 in
set_option maxHeartbeats 4000000 in
theorem lp_r_programs_58 {p : Program} {l : Launch} {e : Env} {s : State} {m9 : MethodId} {args : Array Value} {below : List Frame} {meth : Method} {c : Code} {G : gG} {A : Nat → Prop} {Q : State → Prop} {q : Nat → Nat} (C : xC p s m9 args meth c G A 5 cX3_programs RX3 wsX3_programs) (hq : gD A q shr.length) (m : gM) (h : gN) (x1 : Int32) (x2 : Int32) (x3 : Int32) : ∀ (n : Nat) (z : Int32), rOk (L_r_programs_58 m x1 x2 x3) (K_r_programs_58 m x1 x2 x3) n z → (∀ z' : Int32, run (L_r_programs_58 m x1 x2 x3) n z = z' → xJ p l e rm_r_programs s m9 args below meth c G A 5 Q 0 0 shr q m h [(0, .ref (q 0)), (1, .int x1), (2, .int x2), (3, .int x3), (4, .int z')] [] 72) → xJ p l e rm_r_programs s m9 args below meth c G A 5 Q 0 0 shr q m h [(0, .ref (q 0)), (1, .int x1), (2, .int x2), (3, .int x3), (4, .int z)] [] 58 := by
  intro n
  induction n with
  | zero =>
    intro z hok _
    exact rOk_0 hok
  | succ n ih =>
    intro z hok K0
    have hnx := rOk_2 hok
    have hok := rOk_1 hok
    have hf := L_r_programs_58.eq_1 m x1 x2 x3 z
    have hok := Eq.mp (K_r_programs_58.eq_1 m x1 x2 x3 z) hok
    refine x_aload_n C dX3_programs_58 rfl 0 rfl ?_
    refine x_iload C dX3_programs_59 4 rfl ?_
    have s1 := And.left hok
    have hok := And.right hok
    refine x_iald (n := 364) (v := (m 0 z.toNatClampNeg)) C 0 rfl s1 rfl dX3_programs_61 ?_
    refine x_iconst (v := (-1 : Int32)) C dX3_programs_62 (by decide) ?_
    refine x_icmp_eq (tgt := 72) C dX3_programs_63 (by decide) (fun c2 => ?_) (fun c2 => ?_)
    · have hf := hf.trans (if_pos c2)
      have hok := g_ip c2 hok
      exact K0 (z) (run_f hf)
    · have hf := hf.trans (if_neg c2)
      have hok := g_in c2 hok
      obtain ⟨z3, hz3⟩ : ∃ y9 : Int32, y9 = (z + (1 : Int32)) := ⟨_, rfl⟩
      have hf := hf.trans (g_let_eq hz3)
      have hok := g_let_p hz3 hok
      refine x_iinc (v := z3) (lv' := [(0, .ref (q 0)), (1, .int x1), (2, .int x2), (3, .int x3), (4, .int z3)]) C dX3_programs_66 4 rfl hz3.symm (by decide) [1, 2, 3, 4, 0] rfl ?_
      refine x_goto (tgt := 58) C dX3_programs_69 (by decide) ?_
      exact ih (z3) (rOk_t hnx hf) (fun z' hz => K0 z' ((run_t hf).trans hz))
noncomputable def f_r_programs (m : gM) (a1 : Int32) (a2 : Int32) : gM := (if (m 0 ((344 : Int32) + ((2 : Int32) * a2)).toNatClampNeg) = (-1 : Int32) then g_let ((f_r_freshBlock m)) (fun z24 : Int32 => g_let (g_set m 0 (upd (m 0) ((344 : Int32) + ((2 : Int32) * a2)).toNatClampNeg z24)) (fun z26 : gM => g_let (g_set z26 0 (upd (z26 0) ((96 : Int32) + z24).toNatClampNeg (1 : Int32))) (fun z28 : gM => g_let (g_set z28 0 (upd (z28 0) ((108 : Int32) + z24).toNatClampNeg a2)) (fun z30 : gM => g_let ((z30 0 ((344 : Int32) + ((2 : Int32) * a2)).toNatClampNeg)) (fun z32 : Int32 => g_let (((8 : Int32) * z32)) (fun z33 : Int32 => g_let (run (L_r_programs_58 z30 a1 a2 z32) 400 (z33)) (fun z35 : Int32 => g_let (g_set z30 0 (upd (z30 0) z35.toNatClampNeg a1)) (fun z37 : gM => g_let (g_set z37 0 (upd (z37 0) (((144 : Int32) + ((5 : Int32) * a1)) + (0 : Int32)).toNatClampNeg z35)) (fun z39 : gM => g_let (g_set z39 0 (upd (z39 0) (((344 : Int32) + ((2 : Int32) * a2)) + (1 : Int32)).toNatClampNeg ((z39 0 (((344 : Int32) + ((2 : Int32) * a2)) + (1 : Int32)).toNatClampNeg) + (1 : Int32)))) (fun z42 : gM => (if z35 = ((((8 : Int32) * z32) + (8 : Int32)) - (1 : Int32)) then g_let (g_set z42 0 (upd (z42 0) ((96 : Int32) + z32).toNatClampNeg (2 : Int32))) (fun z45 : gM => g_let (g_set z45 0 (upd (z45 0) ((132 : Int32) + z32).toNatClampNeg (z45 0 (363 : Int32).toNatClampNeg))) (fun z47 : gM => g_let (g_set z47 0 (upd (z47 0) (363 : Int32).toNatClampNeg ((z47 0 (363 : Int32).toNatClampNeg) + (1 : Int32)))) (fun z48 : gM => g_let (g_set z48 0 (upd (z48 0) ((344 : Int32) + ((2 : Int32) * a2)).toNatClampNeg (-1 : Int32))) (fun z50 : gM => z50)))) else z42))))))))))) else g_let ((m 0 ((344 : Int32) + ((2 : Int32) * a2)).toNatClampNeg)) (fun z4 : Int32 => g_let (((8 : Int32) * z4)) (fun z5 : Int32 => g_let (run (L_r_programs_58 m a1 a2 z4) 400 (z5)) (fun z7 : Int32 => g_let (g_set m 0 (upd (m 0) z7.toNatClampNeg a1)) (fun z9 : gM => g_let (g_set z9 0 (upd (z9 0) (((144 : Int32) + ((5 : Int32) * a1)) + (0 : Int32)).toNatClampNeg z7)) (fun z11 : gM => g_let (g_set z11 0 (upd (z11 0) (((344 : Int32) + ((2 : Int32) * a2)) + (1 : Int32)).toNatClampNeg ((z11 0 (((344 : Int32) + ((2 : Int32) * a2)) + (1 : Int32)).toNatClampNeg) + (1 : Int32)))) (fun z14 : gM => (if z7 = ((((8 : Int32) * z4) + (8 : Int32)) - (1 : Int32)) then g_let (g_set z14 0 (upd (z14 0) ((96 : Int32) + z4).toNatClampNeg (2 : Int32))) (fun z17 : gM => g_let (g_set z17 0 (upd (z17 0) ((132 : Int32) + z4).toNatClampNeg (z17 0 (363 : Int32).toNatClampNeg))) (fun z19 : gM => g_let (g_set z19 0 (upd (z19 0) (363 : Int32).toNatClampNeg ((z19 0 (363 : Int32).toNatClampNeg) + (1 : Int32)))) (fun z20 : gM => g_let (g_set z20 0 (upd (z20 0) ((344 : Int32) + ((2 : Int32) * a2)).toNatClampNeg (-1 : Int32))) (fun z22 : gM => z22)))) else z14))))))))
noncomputable def o_r_programs (m : gM) (a1 : Int32) (a2 : Int32) : Prop := (vp_in ((344 : Int32) + ((2 : Int32) * a2)) 364) ∧ ((if (m 0 ((344 : Int32) + ((2 : Int32) * a2)).toNatClampNeg) = (-1 : Int32) then (o_r_freshBlock m) ∧ (g_let ((f_r_freshBlock m)) (fun z24 : Int32 => (vp_in ((344 : Int32) + ((2 : Int32) * a2)) 364) ∧ (g_let (g_set m 0 (upd (m 0) ((344 : Int32) + ((2 : Int32) * a2)).toNatClampNeg z24)) (fun z26 : gM => (vp_in ((96 : Int32) + z24) 364) ∧ (g_let (g_set z26 0 (upd (z26 0) ((96 : Int32) + z24).toNatClampNeg (1 : Int32))) (fun z28 : gM => (vp_in ((108 : Int32) + z24) 364) ∧ (g_let (g_set z28 0 (upd (z28 0) ((108 : Int32) + z24).toNatClampNeg a2)) (fun z30 : gM => (vp_in ((344 : Int32) + ((2 : Int32) * a2)) 364) ∧ (g_let ((z30 0 ((344 : Int32) + ((2 : Int32) * a2)).toNatClampNeg)) (fun z32 : Int32 => g_let (((8 : Int32) * z32)) (fun z33 : Int32 => (rOk (L_r_programs_58 z30 a1 a2 z32) (K_r_programs_58 z30 a1 a2 z32) 400 (z33)) ∧ (g_let (run (L_r_programs_58 z30 a1 a2 z32) 400 (z33)) (fun z35 : Int32 => (vp_in z35 364) ∧ (g_let (g_set z30 0 (upd (z30 0) z35.toNatClampNeg a1)) (fun z37 : gM => (vp_in (((144 : Int32) + ((5 : Int32) * a1)) + (0 : Int32)) 364) ∧ (g_let (g_set z37 0 (upd (z37 0) (((144 : Int32) + ((5 : Int32) * a1)) + (0 : Int32)).toNatClampNeg z35)) (fun z39 : gM => (vp_in (((344 : Int32) + ((2 : Int32) * a2)) + (1 : Int32)) 364) ∧ ((vp_in (((344 : Int32) + ((2 : Int32) * a2)) + (1 : Int32)) 364) ∧ (g_let (g_set z39 0 (upd (z39 0) (((344 : Int32) + ((2 : Int32) * a2)) + (1 : Int32)).toNatClampNeg ((z39 0 (((344 : Int32) + ((2 : Int32) * a2)) + (1 : Int32)).toNatClampNeg) + (1 : Int32)))) (fun z42 : gM => (if z35 = ((((8 : Int32) * z32) + (8 : Int32)) - (1 : Int32)) then (vp_in ((96 : Int32) + z32) 364) ∧ (g_let (g_set z42 0 (upd (z42 0) ((96 : Int32) + z32).toNatClampNeg (2 : Int32))) (fun z45 : gM => (vp_in ((132 : Int32) + z32) 364) ∧ (g_let (g_set z45 0 (upd (z45 0) ((132 : Int32) + z32).toNatClampNeg (z45 0 (363 : Int32).toNatClampNeg))) (fun z47 : gM => g_let (g_set z47 0 (upd (z47 0) (363 : Int32).toNatClampNeg ((z47 0 (363 : Int32).toNatClampNeg) + (1 : Int32)))) (fun z48 : gM => (vp_in ((344 : Int32) + ((2 : Int32) * a2)) 364) ∧ (g_let (g_set z48 0 (upd (z48 0) ((344 : Int32) + ((2 : Int32) * a2)).toNatClampNeg (-1 : Int32))) (fun z50 : gM => True))))))) else True))))))))))))))))))))) else (vp_in ((344 : Int32) + ((2 : Int32) * a2)) 364) ∧ (g_let ((m 0 ((344 : Int32) + ((2 : Int32) * a2)).toNatClampNeg)) (fun z4 : Int32 => g_let (((8 : Int32) * z4)) (fun z5 : Int32 => (rOk (L_r_programs_58 m a1 a2 z4) (K_r_programs_58 m a1 a2 z4) 400 (z5)) ∧ (g_let (run (L_r_programs_58 m a1 a2 z4) 400 (z5)) (fun z7 : Int32 => (vp_in z7 364) ∧ (g_let (g_set m 0 (upd (m 0) z7.toNatClampNeg a1)) (fun z9 : gM => (vp_in (((144 : Int32) + ((5 : Int32) * a1)) + (0 : Int32)) 364) ∧ (g_let (g_set z9 0 (upd (z9 0) (((144 : Int32) + ((5 : Int32) * a1)) + (0 : Int32)).toNatClampNeg z7)) (fun z11 : gM => (vp_in (((344 : Int32) + ((2 : Int32) * a2)) + (1 : Int32)) 364) ∧ ((vp_in (((344 : Int32) + ((2 : Int32) * a2)) + (1 : Int32)) 364) ∧ (g_let (g_set z11 0 (upd (z11 0) (((344 : Int32) + ((2 : Int32) * a2)) + (1 : Int32)).toNatClampNeg ((z11 0 (((344 : Int32) + ((2 : Int32) * a2)) + (1 : Int32)).toNatClampNeg) + (1 : Int32)))) (fun z14 : gM => (if z7 = ((((8 : Int32) * z4) + (8 : Int32)) - (1 : Int32)) then (vp_in ((96 : Int32) + z4) 364) ∧ (g_let (g_set z14 0 (upd (z14 0) ((96 : Int32) + z4).toNatClampNeg (2 : Int32))) (fun z17 : gM => (vp_in ((132 : Int32) + z4) 364) ∧ (g_let (g_set z17 0 (upd (z17 0) ((132 : Int32) + z4).toNatClampNeg (z17 0 (363 : Int32).toNatClampNeg))) (fun z19 : gM => g_let (g_set z19 0 (upd (z19 0) (363 : Int32).toNatClampNeg ((z19 0 (363 : Int32).toNatClampNeg) + (1 : Int32)))) (fun z20 : gM => (vp_in ((344 : Int32) + ((2 : Int32) * a2)) 364) ∧ (g_let (g_set z20 0 (upd (z20 0) ((344 : Int32) + ((2 : Int32) * a2)).toNatClampNeg (-1 : Int32))) (fun z22 : gM => True))))))) else True)))))))))))))))
set_option maxRecDepth 100000 in
set_option maxHeartbeats 4000000 in
theorem c_r_programs (l : Launch) (G : gG) (q : Nat → Nat) (m : gM) (h : gN) (a1 : Int32) (a2 : Int32) (hok : o_r_programs m a1 a2) : gMv l yX3_programs wsX3_programs rm_r_programs G shr q m h [.ref (q 0), .int a1, .int a2] (f_r_programs m a1 a2) h := by
  intro sz
  refine g_met (cc := cX3_programs) (maxL := 5) (ret := none) (own := RX3) (Qc := fun sz => gQv G shr q (f_r_programs m a1 a2) h sz) (by decide) rfl rfl (Nat.le_of_ble_eq_true rfl) (fun p e s m9 below meth c C hq hr => ?_)
  refine x_lv (lv' := [(0, .ref (q 0)), (1, .int a1), (2, .int a2)]) [0, 1, 2] rfl ?_
  have hf := f_r_programs.eq_1 m a1 a2
  have hok := Eq.mp (o_r_programs.eq_1 m a1 a2) hok
  refine x_aload_n C dX3_programs_0 rfl 0 rfl ?_
  refine x_sipush (v := (344 : Int32)) C dX3_programs_1 (by decide) ?_
  refine x_iconst (v := (2 : Int32)) C dX3_programs_4 (by decide) ?_
  refine x_iload_n C dX3_programs_5 rfl 2 rfl ?_
  refine x_imul C dX3_programs_6 ?_
  refine x_iadd C dX3_programs_7 ?_
  have s1 := And.left hok
  have hok := And.right hok
  refine x_iald (n := 364) (v := (m 0 ((344 : Int32) + ((2 : Int32) * a2)).toNatClampNeg)) C 0 rfl s1 rfl dX3_programs_8 ?_
  refine x_iconst (v := (-1 : Int32)) C dX3_programs_9 (by decide) ?_
  refine x_icmp_ne (tgt := 42) C dX3_programs_10 (by decide) (fun c2 => ?_) (fun c2 => ?_)
  · have hf := hf.trans (if_neg c2)
    have hok := g_in c2 hok
    refine x_aload_n C dX3_programs_42 rfl 0 rfl ?_
    refine x_sipush (v := (344 : Int32)) C dX3_programs_43 (by decide) ?_
    refine x_iconst (v := (2 : Int32)) C dX3_programs_46 (by decide) ?_
    refine x_iload_n C dX3_programs_47 rfl 2 rfl ?_
    refine x_imul C dX3_programs_48 ?_
    refine x_iadd C dX3_programs_49 ?_
    have s3 := And.left hok
    have hok := And.right hok
    refine x_iald (n := 364) (v := (m 0 ((344 : Int32) + ((2 : Int32) * a2)).toNatClampNeg)) C 0 rfl s3 rfl dX3_programs_50 ?_
    obtain ⟨z4, hz4⟩ : ∃ y9 : Int32, y9 = (m 0 ((344 : Int32) + ((2 : Int32) * a2)).toNatClampNeg) := ⟨_, rfl⟩
    have hf := hf.trans (g_let_eq hz4)
    have hok := g_let_p hz4 hok
    refine x_topi hz4 ?_
    refine x_istore_n (lv' := [(0, .ref (q 0)), (1, .int a1), (2, .int a2), (3, .int z4)]) C dX3_programs_51 rfl (by decide) [1, 2, 3, 0] rfl ?_
    refine x_bipush (v := (8 : Int32)) C dX3_programs_52 (by decide) ?_
    refine x_iload_n C dX3_programs_54 rfl 3 rfl ?_
    refine x_imul C dX3_programs_55 ?_
    obtain ⟨z5, hz5⟩ : ∃ y9 : Int32, y9 = ((8 : Int32) * z4) := ⟨_, rfl⟩
    have hf := hf.trans (g_let_eq hz5)
    have hok := g_let_p hz5 hok
    refine x_topi hz5 ?_
    refine x_istore (lv' := [(0, .ref (q 0)), (1, .int a1), (2, .int a2), (3, .int z4), (4, .int z5)]) C dX3_programs_56 (by decide) [1, 2, 3, 4, 0] rfl ?_
    have s6 := And.left hok
    have hok := And.right hok
    refine lp_r_programs_58 C hq m h a1 a2 z4 400 (z5) s6 (fun z7 hz7 => ?_)
    have hf := hf.trans (g_let_eq hz7.symm)
    have hok := g_let_p hz7.symm hok
    refine x_aload_n C dX3_programs_72 rfl 0 rfl ?_
    refine x_iload C dX3_programs_73 4 rfl ?_
    refine x_iload_n C dX3_programs_75 rfl 1 rfl ?_
    have s8 := And.left hok
    have hok := And.right hok
    obtain ⟨z9, hz9⟩ : ∃ y9 : gM, y9 = g_set m 0 (upd (m 0) z7.toNatClampNeg a1) := ⟨_, rfl⟩
    have hf := hf.trans (g_let_eq hz9)
    have hok := g_let_p hz9 hok
    refine x_iast (μ' := z9) (n := 364) C hq 0 rfl s8 hz9 dX3_programs_76 ?_
    refine x_aload_n C dX3_programs_77 rfl 0 rfl ?_
    refine x_sipush (v := (144 : Int32)) C dX3_programs_78 (by decide) ?_
    refine x_iconst (v := (5 : Int32)) C dX3_programs_81 (by decide) ?_
    refine x_iload_n C dX3_programs_82 rfl 1 rfl ?_
    refine x_imul C dX3_programs_83 ?_
    refine x_iadd C dX3_programs_84 ?_
    refine x_iconst (v := (0 : Int32)) C dX3_programs_85 (by decide) ?_
    refine x_iadd C dX3_programs_86 ?_
    refine x_iload C dX3_programs_87 4 rfl ?_
    have s10 := And.left hok
    have hok := And.right hok
    obtain ⟨z11, hz11⟩ : ∃ y9 : gM, y9 = g_set z9 0 (upd (z9 0) (((144 : Int32) + ((5 : Int32) * a1)) + (0 : Int32)).toNatClampNeg z7) := ⟨_, rfl⟩
    have hf := hf.trans (g_let_eq hz11)
    have hok := g_let_p hz11 hok
    refine x_iast (μ' := z11) (n := 364) C hq 0 rfl s10 hz11 dX3_programs_89 ?_
    refine x_aload_n C dX3_programs_90 rfl 0 rfl ?_
    refine x_sipush (v := (344 : Int32)) C dX3_programs_91 (by decide) ?_
    refine x_iconst (v := (2 : Int32)) C dX3_programs_94 (by decide) ?_
    refine x_iload_n C dX3_programs_95 rfl 2 rfl ?_
    refine x_imul C dX3_programs_96 ?_
    refine x_iadd C dX3_programs_97 ?_
    refine x_iconst (v := (1 : Int32)) C dX3_programs_98 (by decide) ?_
    refine x_iadd C dX3_programs_99 ?_
    refine x_dup2 C dX3_programs_100 rfl rfl ?_
    have s12 := And.left hok
    have hok := And.right hok
    refine x_iald (n := 364) (v := (z11 0 (((344 : Int32) + ((2 : Int32) * a2)) + (1 : Int32)).toNatClampNeg)) C 0 rfl s12 rfl dX3_programs_101 ?_
    refine x_iconst (v := (1 : Int32)) C dX3_programs_102 (by decide) ?_
    refine x_iadd C dX3_programs_103 ?_
    have s13 := And.left hok
    have hok := And.right hok
    obtain ⟨z14, hz14⟩ : ∃ y9 : gM, y9 = g_set z11 0 (upd (z11 0) (((344 : Int32) + ((2 : Int32) * a2)) + (1 : Int32)).toNatClampNeg ((z11 0 (((344 : Int32) + ((2 : Int32) * a2)) + (1 : Int32)).toNatClampNeg) + (1 : Int32))) := ⟨_, rfl⟩
    have hf := hf.trans (g_let_eq hz14)
    have hok := g_let_p hz14 hok
    refine x_iast (μ' := z14) (n := 364) C hq 0 rfl s13 hz14 dX3_programs_104 ?_
    refine x_iload C dX3_programs_105 4 rfl ?_
    refine x_bipush (v := (8 : Int32)) C dX3_programs_107 (by decide) ?_
    refine x_iload_n C dX3_programs_109 rfl 3 rfl ?_
    refine x_imul C dX3_programs_110 ?_
    refine x_bipush (v := (8 : Int32)) C dX3_programs_111 (by decide) ?_
    refine x_iadd C dX3_programs_113 ?_
    refine x_iconst (v := (1 : Int32)) C dX3_programs_114 (by decide) ?_
    refine x_isub C dX3_programs_115 ?_
    refine x_icmp_ne (tgt := 157) C dX3_programs_116 (by decide) (fun c15 => ?_) (fun c15 => ?_)
    · have hf := hf.trans (if_neg c15)
      have hok := g_in c15 hok
      exact g_vret C hr dX3_programs_157 hf.symm rfl
    · have hf := hf.trans (if_pos c15)
      have hok := g_ip c15 hok
      refine x_aload_n C dX3_programs_119 rfl 0 rfl ?_
      refine x_bipush (v := (96 : Int32)) C dX3_programs_120 (by decide) ?_
      refine x_iload_n C dX3_programs_122 rfl 3 rfl ?_
      refine x_iadd C dX3_programs_123 ?_
      refine x_iconst (v := (2 : Int32)) C dX3_programs_124 (by decide) ?_
      have s16 := And.left hok
      have hok := And.right hok
      obtain ⟨z17, hz17⟩ : ∃ y9 : gM, y9 = g_set z14 0 (upd (z14 0) ((96 : Int32) + z4).toNatClampNeg (2 : Int32)) := ⟨_, rfl⟩
      have hf := hf.trans (g_let_eq hz17)
      have hok := g_let_p hz17 hok
      refine x_iast (μ' := z17) (n := 364) C hq 0 rfl s16 hz17 dX3_programs_125 ?_
      refine x_aload_n C dX3_programs_126 rfl 0 rfl ?_
      refine x_sipush (v := (132 : Int32)) C dX3_programs_127 (by decide) ?_
      refine x_iload_n C dX3_programs_130 rfl 3 rfl ?_
      refine x_iadd C dX3_programs_131 ?_
      refine x_aload_n C dX3_programs_132 rfl 0 rfl ?_
      refine x_sipush (v := (363 : Int32)) C dX3_programs_133 (by decide) ?_
      refine x_iald (n := 364) (v := (z17 0 (363 : Int32).toNatClampNeg)) C 0 rfl (by unfold vp_in; decide) rfl dX3_programs_136 ?_
      have s18 := And.left hok
      have hok := And.right hok
      obtain ⟨z19, hz19⟩ : ∃ y9 : gM, y9 = g_set z17 0 (upd (z17 0) ((132 : Int32) + z4).toNatClampNeg (z17 0 (363 : Int32).toNatClampNeg)) := ⟨_, rfl⟩
      have hf := hf.trans (g_let_eq hz19)
      have hok := g_let_p hz19 hok
      refine x_iast (μ' := z19) (n := 364) C hq 0 rfl s18 hz19 dX3_programs_137 ?_
      refine x_aload_n C dX3_programs_138 rfl 0 rfl ?_
      refine x_sipush (v := (363 : Int32)) C dX3_programs_139 (by decide) ?_
      refine x_dup2 C dX3_programs_142 rfl rfl ?_
      refine x_iald (n := 364) (v := (z19 0 (363 : Int32).toNatClampNeg)) C 0 rfl (by unfold vp_in; decide) rfl dX3_programs_143 ?_
      refine x_iconst (v := (1 : Int32)) C dX3_programs_144 (by decide) ?_
      refine x_iadd C dX3_programs_145 ?_
      obtain ⟨z20, hz20⟩ : ∃ y9 : gM, y9 = g_set z19 0 (upd (z19 0) (363 : Int32).toNatClampNeg ((z19 0 (363 : Int32).toNatClampNeg) + (1 : Int32))) := ⟨_, rfl⟩
      have hf := hf.trans (g_let_eq hz20)
      have hok := g_let_p hz20 hok
      refine x_iast (μ' := z20) (n := 364) C hq 0 rfl (by unfold vp_in; decide) hz20 dX3_programs_146 ?_
      refine x_aload_n C dX3_programs_147 rfl 0 rfl ?_
      refine x_sipush (v := (344 : Int32)) C dX3_programs_148 (by decide) ?_
      refine x_iconst (v := (2 : Int32)) C dX3_programs_151 (by decide) ?_
      refine x_iload_n C dX3_programs_152 rfl 2 rfl ?_
      refine x_imul C dX3_programs_153 ?_
      refine x_iadd C dX3_programs_154 ?_
      refine x_iconst (v := (-1 : Int32)) C dX3_programs_155 (by decide) ?_
      have s21 := And.left hok
      have hok := And.right hok
      obtain ⟨z22, hz22⟩ : ∃ y9 : gM, y9 = g_set z20 0 (upd (z20 0) ((344 : Int32) + ((2 : Int32) * a2)).toNatClampNeg (-1 : Int32)) := ⟨_, rfl⟩
      have hf := hf.trans (g_let_eq hz22)
      have hok := g_let_p hz22 hok
      refine x_iast (μ' := z22) (n := 364) C hq 0 rfl s21 hz22 dX3_programs_156 ?_
      exact g_vret C hr dX3_programs_157 hf.symm rfl
  · have hf := hf.trans (if_pos c2)
    have hok := g_ip c2 hok
    refine x_aload_n C dX3_programs_13 rfl 0 rfl ?_
    have s23 := And.left hok
    have hok := And.right hok
    refine x_callSi (n := 1) C hq gFr_same (c_r_freshBlock l G q m h s23) (va_cwS 1 C.2.2.2.2.2.1 gX3_programs_X3_freshBlock rfl rfl rfl (by decide +kernel) ⟨Nat.le_of_ble_eq_true rfl, Nat.le_of_ble_eq_true rfl⟩) rfl rfl (Nat.le_of_ble_eq_true rfl) dX3_programs_14 (Nat.zero_le _) (Nat.zero_le _) ?_
    obtain ⟨z24, hz24⟩ : ∃ y9 : Int32, y9 = (f_r_freshBlock m) := ⟨_, rfl⟩
    have hf := hf.trans (g_let_eq hz24)
    have hok := g_let_p hz24 hok
    refine x_topi hz24 ?_
    refine x_istore_n (lv' := [(0, .ref (q 0)), (1, .int a1), (2, .int a2), (3, .int z24)]) C dX3_programs_17 rfl (by decide) [1, 2, 3, 0] rfl ?_
    refine x_aload_n C dX3_programs_18 rfl 0 rfl ?_
    refine x_sipush (v := (344 : Int32)) C dX3_programs_19 (by decide) ?_
    refine x_iconst (v := (2 : Int32)) C dX3_programs_22 (by decide) ?_
    refine x_iload_n C dX3_programs_23 rfl 2 rfl ?_
    refine x_imul C dX3_programs_24 ?_
    refine x_iadd C dX3_programs_25 ?_
    refine x_iload_n C dX3_programs_26 rfl 3 rfl ?_
    have s25 := And.left hok
    have hok := And.right hok
    obtain ⟨z26, hz26⟩ : ∃ y9 : gM, y9 = g_set m 0 (upd (m 0) ((344 : Int32) + ((2 : Int32) * a2)).toNatClampNeg z24) := ⟨_, rfl⟩
    have hf := hf.trans (g_let_eq hz26)
    have hok := g_let_p hz26 hok
    refine x_iast (μ' := z26) (n := 364) C hq 0 rfl s25 hz26 dX3_programs_27 ?_
    refine x_aload_n C dX3_programs_28 rfl 0 rfl ?_
    refine x_bipush (v := (96 : Int32)) C dX3_programs_29 (by decide) ?_
    refine x_iload_n C dX3_programs_31 rfl 3 rfl ?_
    refine x_iadd C dX3_programs_32 ?_
    refine x_iconst (v := (1 : Int32)) C dX3_programs_33 (by decide) ?_
    have s27 := And.left hok
    have hok := And.right hok
    obtain ⟨z28, hz28⟩ : ∃ y9 : gM, y9 = g_set z26 0 (upd (z26 0) ((96 : Int32) + z24).toNatClampNeg (1 : Int32)) := ⟨_, rfl⟩
    have hf := hf.trans (g_let_eq hz28)
    have hok := g_let_p hz28 hok
    refine x_iast (μ' := z28) (n := 364) C hq 0 rfl s27 hz28 dX3_programs_34 ?_
    refine x_aload_n C dX3_programs_35 rfl 0 rfl ?_
    refine x_bipush (v := (108 : Int32)) C dX3_programs_36 (by decide) ?_
    refine x_iload_n C dX3_programs_38 rfl 3 rfl ?_
    refine x_iadd C dX3_programs_39 ?_
    refine x_iload_n C dX3_programs_40 rfl 2 rfl ?_
    have s29 := And.left hok
    have hok := And.right hok
    obtain ⟨z30, hz30⟩ : ∃ y9 : gM, y9 = g_set z28 0 (upd (z28 0) ((108 : Int32) + z24).toNatClampNeg a2) := ⟨_, rfl⟩
    have hf := hf.trans (g_let_eq hz30)
    have hok := g_let_p hz30 hok
    refine x_iast (μ' := z30) (n := 364) C hq 0 rfl s29 hz30 dX3_programs_41 ?_
    refine x_aload_n C dX3_programs_42 rfl 0 rfl ?_
    refine x_sipush (v := (344 : Int32)) C dX3_programs_43 (by decide) ?_
    refine x_iconst (v := (2 : Int32)) C dX3_programs_46 (by decide) ?_
    refine x_iload_n C dX3_programs_47 rfl 2 rfl ?_
    refine x_imul C dX3_programs_48 ?_
    refine x_iadd C dX3_programs_49 ?_
    have s31 := And.left hok
    have hok := And.right hok
    refine x_iald (n := 364) (v := (z30 0 ((344 : Int32) + ((2 : Int32) * a2)).toNatClampNeg)) C 0 rfl s31 rfl dX3_programs_50 ?_
    obtain ⟨z32, hz32⟩ : ∃ y9 : Int32, y9 = (z30 0 ((344 : Int32) + ((2 : Int32) * a2)).toNatClampNeg) := ⟨_, rfl⟩
    have hf := hf.trans (g_let_eq hz32)
    have hok := g_let_p hz32 hok
    refine x_topi hz32 ?_
    refine x_istore_n (lv' := [(0, .ref (q 0)), (1, .int a1), (2, .int a2), (3, .int z32)]) C dX3_programs_51 rfl (by decide) [1, 2, 3, 0] rfl ?_
    refine x_bipush (v := (8 : Int32)) C dX3_programs_52 (by decide) ?_
    refine x_iload_n C dX3_programs_54 rfl 3 rfl ?_
    refine x_imul C dX3_programs_55 ?_
    obtain ⟨z33, hz33⟩ : ∃ y9 : Int32, y9 = ((8 : Int32) * z32) := ⟨_, rfl⟩
    have hf := hf.trans (g_let_eq hz33)
    have hok := g_let_p hz33 hok
    refine x_topi hz33 ?_
    refine x_istore (lv' := [(0, .ref (q 0)), (1, .int a1), (2, .int a2), (3, .int z32), (4, .int z33)]) C dX3_programs_56 (by decide) [1, 2, 3, 4, 0] rfl ?_
    have s34 := And.left hok
    have hok := And.right hok
    refine lp_r_programs_58 C hq z30 h a1 a2 z32 400 (z33) s34 (fun z35 hz35 => ?_)
    have hf := hf.trans (g_let_eq hz35.symm)
    have hok := g_let_p hz35.symm hok
    refine x_aload_n C dX3_programs_72 rfl 0 rfl ?_
    refine x_iload C dX3_programs_73 4 rfl ?_
    refine x_iload_n C dX3_programs_75 rfl 1 rfl ?_
    have s36 := And.left hok
    have hok := And.right hok
    obtain ⟨z37, hz37⟩ : ∃ y9 : gM, y9 = g_set z30 0 (upd (z30 0) z35.toNatClampNeg a1) := ⟨_, rfl⟩
    have hf := hf.trans (g_let_eq hz37)
    have hok := g_let_p hz37 hok
    refine x_iast (μ' := z37) (n := 364) C hq 0 rfl s36 hz37 dX3_programs_76 ?_
    refine x_aload_n C dX3_programs_77 rfl 0 rfl ?_
    refine x_sipush (v := (144 : Int32)) C dX3_programs_78 (by decide) ?_
    refine x_iconst (v := (5 : Int32)) C dX3_programs_81 (by decide) ?_
    refine x_iload_n C dX3_programs_82 rfl 1 rfl ?_
    refine x_imul C dX3_programs_83 ?_
    refine x_iadd C dX3_programs_84 ?_
    refine x_iconst (v := (0 : Int32)) C dX3_programs_85 (by decide) ?_
    refine x_iadd C dX3_programs_86 ?_
    refine x_iload C dX3_programs_87 4 rfl ?_
    have s38 := And.left hok
    have hok := And.right hok
    obtain ⟨z39, hz39⟩ : ∃ y9 : gM, y9 = g_set z37 0 (upd (z37 0) (((144 : Int32) + ((5 : Int32) * a1)) + (0 : Int32)).toNatClampNeg z35) := ⟨_, rfl⟩
    have hf := hf.trans (g_let_eq hz39)
    have hok := g_let_p hz39 hok
    refine x_iast (μ' := z39) (n := 364) C hq 0 rfl s38 hz39 dX3_programs_89 ?_
    refine x_aload_n C dX3_programs_90 rfl 0 rfl ?_
    refine x_sipush (v := (344 : Int32)) C dX3_programs_91 (by decide) ?_
    refine x_iconst (v := (2 : Int32)) C dX3_programs_94 (by decide) ?_
    refine x_iload_n C dX3_programs_95 rfl 2 rfl ?_
    refine x_imul C dX3_programs_96 ?_
    refine x_iadd C dX3_programs_97 ?_
    refine x_iconst (v := (1 : Int32)) C dX3_programs_98 (by decide) ?_
    refine x_iadd C dX3_programs_99 ?_
    refine x_dup2 C dX3_programs_100 rfl rfl ?_
    have s40 := And.left hok
    have hok := And.right hok
    refine x_iald (n := 364) (v := (z39 0 (((344 : Int32) + ((2 : Int32) * a2)) + (1 : Int32)).toNatClampNeg)) C 0 rfl s40 rfl dX3_programs_101 ?_
    refine x_iconst (v := (1 : Int32)) C dX3_programs_102 (by decide) ?_
    refine x_iadd C dX3_programs_103 ?_
    have s41 := And.left hok
    have hok := And.right hok
    obtain ⟨z42, hz42⟩ : ∃ y9 : gM, y9 = g_set z39 0 (upd (z39 0) (((344 : Int32) + ((2 : Int32) * a2)) + (1 : Int32)).toNatClampNeg ((z39 0 (((344 : Int32) + ((2 : Int32) * a2)) + (1 : Int32)).toNatClampNeg) + (1 : Int32))) := ⟨_, rfl⟩
    have hf := hf.trans (g_let_eq hz42)
    have hok := g_let_p hz42 hok
    refine x_iast (μ' := z42) (n := 364) C hq 0 rfl s41 hz42 dX3_programs_104 ?_
    refine x_iload C dX3_programs_105 4 rfl ?_
    refine x_bipush (v := (8 : Int32)) C dX3_programs_107 (by decide) ?_
    refine x_iload_n C dX3_programs_109 rfl 3 rfl ?_
    refine x_imul C dX3_programs_110 ?_
    refine x_bipush (v := (8 : Int32)) C dX3_programs_111 (by decide) ?_
    refine x_iadd C dX3_programs_113 ?_
    refine x_iconst (v := (1 : Int32)) C dX3_programs_114 (by decide) ?_
    refine x_isub C dX3_programs_115 ?_
    refine x_icmp_ne (tgt := 157) C dX3_programs_116 (by decide) (fun c43 => ?_) (fun c43 => ?_)
    · have hf := hf.trans (if_neg c43)
      have hok := g_in c43 hok
      exact g_vret C hr dX3_programs_157 hf.symm rfl
    · have hf := hf.trans (if_pos c43)
      have hok := g_ip c43 hok
      refine x_aload_n C dX3_programs_119 rfl 0 rfl ?_
      refine x_bipush (v := (96 : Int32)) C dX3_programs_120 (by decide) ?_
      refine x_iload_n C dX3_programs_122 rfl 3 rfl ?_
      refine x_iadd C dX3_programs_123 ?_
      refine x_iconst (v := (2 : Int32)) C dX3_programs_124 (by decide) ?_
      have s44 := And.left hok
      have hok := And.right hok
      obtain ⟨z45, hz45⟩ : ∃ y9 : gM, y9 = g_set z42 0 (upd (z42 0) ((96 : Int32) + z32).toNatClampNeg (2 : Int32)) := ⟨_, rfl⟩
      have hf := hf.trans (g_let_eq hz45)
      have hok := g_let_p hz45 hok
      refine x_iast (μ' := z45) (n := 364) C hq 0 rfl s44 hz45 dX3_programs_125 ?_
      refine x_aload_n C dX3_programs_126 rfl 0 rfl ?_
      refine x_sipush (v := (132 : Int32)) C dX3_programs_127 (by decide) ?_
      refine x_iload_n C dX3_programs_130 rfl 3 rfl ?_
      refine x_iadd C dX3_programs_131 ?_
      refine x_aload_n C dX3_programs_132 rfl 0 rfl ?_
      refine x_sipush (v := (363 : Int32)) C dX3_programs_133 (by decide) ?_
      refine x_iald (n := 364) (v := (z45 0 (363 : Int32).toNatClampNeg)) C 0 rfl (by unfold vp_in; decide) rfl dX3_programs_136 ?_
      have s46 := And.left hok
      have hok := And.right hok
      obtain ⟨z47, hz47⟩ : ∃ y9 : gM, y9 = g_set z45 0 (upd (z45 0) ((132 : Int32) + z32).toNatClampNeg (z45 0 (363 : Int32).toNatClampNeg)) := ⟨_, rfl⟩
      have hf := hf.trans (g_let_eq hz47)
      have hok := g_let_p hz47 hok
      refine x_iast (μ' := z47) (n := 364) C hq 0 rfl s46 hz47 dX3_programs_137 ?_
      refine x_aload_n C dX3_programs_138 rfl 0 rfl ?_
      refine x_sipush (v := (363 : Int32)) C dX3_programs_139 (by decide) ?_
      refine x_dup2 C dX3_programs_142 rfl rfl ?_
      refine x_iald (n := 364) (v := (z47 0 (363 : Int32).toNatClampNeg)) C 0 rfl (by unfold vp_in; decide) rfl dX3_programs_143 ?_
      refine x_iconst (v := (1 : Int32)) C dX3_programs_144 (by decide) ?_
      refine x_iadd C dX3_programs_145 ?_
      obtain ⟨z48, hz48⟩ : ∃ y9 : gM, y9 = g_set z47 0 (upd (z47 0) (363 : Int32).toNatClampNeg ((z47 0 (363 : Int32).toNatClampNeg) + (1 : Int32))) := ⟨_, rfl⟩
      have hf := hf.trans (g_let_eq hz48)
      have hok := g_let_p hz48 hok
      refine x_iast (μ' := z48) (n := 364) C hq 0 rfl (by unfold vp_in; decide) hz48 dX3_programs_146 ?_
      refine x_aload_n C dX3_programs_147 rfl 0 rfl ?_
      refine x_sipush (v := (344 : Int32)) C dX3_programs_148 (by decide) ?_
      refine x_iconst (v := (2 : Int32)) C dX3_programs_151 (by decide) ?_
      refine x_iload_n C dX3_programs_152 rfl 2 rfl ?_
      refine x_imul C dX3_programs_153 ?_
      refine x_iadd C dX3_programs_154 ?_
      refine x_iconst (v := (-1 : Int32)) C dX3_programs_155 (by decide) ?_
      have s49 := And.left hok
      have hok := And.right hok
      obtain ⟨z50, hz50⟩ : ∃ y9 : gM, y9 = g_set z48 0 (upd (z48 0) ((344 : Int32) + ((2 : Int32) * a2)).toNatClampNeg (-1 : Int32)) := ⟨_, rfl⟩
      have hf := hf.trans (g_let_eq hz50)
      have hok := g_let_p hz50 hok
      refine x_iast (μ' := z50) (n := 364) C hq 0 rfl s49 hz50 dX3_programs_156 ?_
      exact g_vret C hr dX3_programs_157 hf.symm rfl
abbrev rm_r_collects : Room := { frames := 2, cells := 0, slots := 0, locals := 47 }
noncomputable def L_r_collects_7 (x1 : Int32) (z : Int32 × Int32 × gM) : Bool × (Int32 × Int32 × gM) := (if (((8 : Int32) * x1) + (8 : Int32)) ≤ z.2.1 then (false, (z.1, z.2.1, z.2.2)) else (if (f_r_isValid z.2.2 z.2.1) = 0 then g_let ((z.2.1 + (1 : Int32))) (fun z4 : Int32 => (true, (z.1, z4, z.2.2))) else g_let ((z.2.2 0 z.2.1.toNatClampNeg)) (fun z6 : Int32 => g_let (f_r_programs z.2.2 z6 (4 : Int32)) (fun z8 : gM => g_let (g_set z8 0 (upd (z8 0) (((144 : Int32) + ((5 : Int32) * z6)) + (3 : Int32)).toNatClampNeg ((z8 0 (((144 : Int32) + ((5 : Int32) * z6)) + (3 : Int32)).toNatClampNeg) + (1 : Int32)))) (fun z11 : gM => g_let (g_set z11 0 (upd (z11 0) (((144 : Int32) + ((5 : Int32) * z6)) + (4 : Int32)).toNatClampNeg ((z11 0 (((144 : Int32) + ((5 : Int32) * z6)) + (4 : Int32)).toNatClampNeg) + (1 : Int32)))) (fun z14 : gM => g_let (g_set z14 0 (upd (z14 0) ((354 : Int32) + (f_r_of z14 z6 (1 : Int32))).toNatClampNeg ((z14 0 ((354 : Int32) + (f_r_of z14 z6 (1 : Int32))).toNatClampNeg) + (1 : Int32)))) (fun z18 : gM => g_let ((z.1 + (1 : Int32))) (fun z19 : Int32 => g_let ((z.2.1 + (1 : Int32))) (fun z20 : Int32 => (true, (z19, z20, z18)))))))))))
noncomputable def K_r_collects_7 (x1 : Int32) (z : Int32 × Int32 × gM) : Prop := (if (((8 : Int32) * x1) + (8 : Int32)) ≤ z.2.1 then True else (o_r_isValid z.2.2 z.2.1) ∧ ((if (f_r_isValid z.2.2 z.2.1) = 0 then g_let ((z.2.1 + (1 : Int32))) (fun z4 : Int32 => True) else (vp_in z.2.1 364) ∧ (g_let ((z.2.2 0 z.2.1.toNatClampNeg)) (fun z6 : Int32 => (o_r_programs z.2.2 z6 (4 : Int32)) ∧ (g_let (f_r_programs z.2.2 z6 (4 : Int32)) (fun z8 : gM => (vp_in (((144 : Int32) + ((5 : Int32) * z6)) + (3 : Int32)) 364) ∧ ((vp_in (((144 : Int32) + ((5 : Int32) * z6)) + (3 : Int32)) 364) ∧ (g_let (g_set z8 0 (upd (z8 0) (((144 : Int32) + ((5 : Int32) * z6)) + (3 : Int32)).toNatClampNeg ((z8 0 (((144 : Int32) + ((5 : Int32) * z6)) + (3 : Int32)).toNatClampNeg) + (1 : Int32)))) (fun z11 : gM => (vp_in (((144 : Int32) + ((5 : Int32) * z6)) + (4 : Int32)) 364) ∧ ((vp_in (((144 : Int32) + ((5 : Int32) * z6)) + (4 : Int32)) 364) ∧ (g_let (g_set z11 0 (upd (z11 0) (((144 : Int32) + ((5 : Int32) * z6)) + (4 : Int32)).toNatClampNeg ((z11 0 (((144 : Int32) + ((5 : Int32) * z6)) + (4 : Int32)).toNatClampNeg) + (1 : Int32)))) (fun z14 : gM => (o_r_of z14 z6 (1 : Int32)) ∧ ((vp_in ((354 : Int32) + (f_r_of z14 z6 (1 : Int32))) 364) ∧ ((vp_in ((354 : Int32) + (f_r_of z14 z6 (1 : Int32))) 364) ∧ (g_let (g_set z14 0 (upd (z14 0) ((354 : Int32) + (f_r_of z14 z6 (1 : Int32))).toNatClampNeg ((z14 0 ((354 : Int32) + (f_r_of z14 z6 (1 : Int32))).toNatClampNeg) + (1 : Int32)))) (fun z18 : gM => g_let ((z.1 + (1 : Int32))) (fun z19 : Int32 => g_let ((z.2.1 + (1 : Int32))) (fun z20 : Int32 => True)))))))))))))))))))
set_option maxRecDepth 100000 in
set_option maxHeartbeats 4000000 in
theorem lp_r_collects_7 {p : Program} {l : Launch} {e : Env} {s : State} {m9 : MethodId} {args : Array Value} {below : List Frame} {meth : Method} {c : Code} {G : gG} {A : Nat → Prop} {Q : State → Prop} {q : Nat → Nat} (C : xC p s m9 args meth c G A 5 cX3_collects RX3 wsX3_collects) (hq : gD A q shr.length) (h : gN) (x1 : Int32) : ∀ (n : Nat) (z : Int32 × Int32 × gM), rOk (L_r_collects_7 x1) (K_r_collects_7 x1) n z → (∀ z' : Int32 × Int32 × gM, run (L_r_collects_7 x1) n z = z' → xJ p l e rm_r_collects s m9 args below meth c G A 5 Q 0 0 shr q z'.2.2 h [(0, .ref (q 0)), (1, .int x1), (2, .int z'.1), (3, .int z'.2.1)] [] 96) → xJ p l e rm_r_collects s m9 args below meth c G A 5 Q 0 0 shr q z.2.2 h [(0, .ref (q 0)), (1, .int x1), (2, .int z.1), (3, .int z.2.1)] [] 7 := by
  intro n
  induction n with
  | zero =>
    intro z hok _
    exact rOk_0 hok
  | succ n ih =>
    intro z hok K0
    have hnx := rOk_2 hok
    have hok := rOk_1 hok
    have hf := L_r_collects_7.eq_1 x1 z
    have hok := Eq.mp (K_r_collects_7.eq_1 x1 z) hok
    refine x_iload_n C dX3_collects_7 rfl 3 rfl ?_
    refine x_bipush (v := (8 : Int32)) C dX3_collects_8 (by decide) ?_
    refine x_iload_n C dX3_collects_10 rfl 1 rfl ?_
    refine x_imul C dX3_collects_11 ?_
    refine x_bipush (v := (8 : Int32)) C dX3_collects_12 (by decide) ?_
    refine x_iadd C dX3_collects_14 ?_
    refine x_icmp_ge (tgt := 96) C dX3_collects_15 (by decide) (fun c1 => ?_) (fun c1 => ?_)
    · have hf := hf.trans (if_pos c1)
      have hok := g_ip c1 hok
      exact K0 ((z.1, z.2.1, z.2.2)) (run_f hf)
    · have hf := hf.trans (if_neg c1)
      have hok := g_in c1 hok
      refine x_aload_n C dX3_collects_18 rfl 0 rfl ?_
      refine x_iload_n C dX3_collects_19 rfl 3 rfl ?_
      have s2 := And.left hok
      have hok := And.right hok
      refine x_callSi (n := 2) C hq gFr_same (c_r_isValid l G q z.2.2 h z.2.1 s2) (va_cwS 2 C.2.2.2.2.2.1 gX3_collects_X3_isValid rfl rfl rfl (by decide +kernel) ⟨Nat.le_of_ble_eq_true rfl, Nat.le_of_ble_eq_true rfl⟩) rfl rfl (Nat.le_of_ble_eq_true rfl) dX3_collects_20 (Nat.zero_le _) (Nat.zero_le _) ?_
      refine x_if_eq (tgt := 90) C dX3_collects_23 (by decide) (fun c3 => ?_) (fun c3 => ?_)
      · have hf := hf.trans (if_pos c3)
        have hok := g_ip c3 hok
        obtain ⟨z4, hz4⟩ : ∃ y9 : Int32, y9 = (z.2.1 + (1 : Int32)) := ⟨_, rfl⟩
        have hf := hf.trans (g_let_eq hz4)
        have hok := g_let_p hz4 hok
        refine x_iinc (v := z4) (lv' := [(0, .ref (q 0)), (1, .int x1), (2, .int z.1), (3, .int z4)]) C dX3_collects_90 3 rfl hz4.symm (by decide) [1, 2, 3, 0] rfl ?_
        refine x_goto (tgt := 7) C dX3_collects_93 (by decide) ?_
        exact ih ((z.1, z4, z.2.2)) (rOk_t hnx hf) (fun z' hz => K0 z' ((run_t hf).trans hz))
      · have hf := hf.trans (if_neg c3)
        have hok := g_in c3 hok
        refine x_aload_n C dX3_collects_26 rfl 0 rfl ?_
        refine x_iload_n C dX3_collects_27 rfl 3 rfl ?_
        have s5 := And.left hok
        have hok := And.right hok
        refine x_iald (n := 364) (v := (z.2.2 0 z.2.1.toNatClampNeg)) C 0 rfl s5 rfl dX3_collects_28 ?_
        obtain ⟨z6, hz6⟩ : ∃ y9 : Int32, y9 = (z.2.2 0 z.2.1.toNatClampNeg) := ⟨_, rfl⟩
        have hf := hf.trans (g_let_eq hz6)
        have hok := g_let_p hz6 hok
        refine x_topi hz6 ?_
        refine x_istore (lv' := [(0, .ref (q 0)), (1, .int x1), (2, .int z.1), (3, .int z.2.1), (4, .int z6)]) C dX3_collects_29 (by decide) [1, 2, 3, 4, 0] rfl ?_
        refine x_aload_n C dX3_collects_31 rfl 0 rfl ?_
        refine x_iload C dX3_collects_32 4 rfl ?_
        refine x_iconst (v := (4 : Int32)) C dX3_collects_34 (by decide) ?_
        have s7 := And.left hok
        have hok := And.right hok
        obtain ⟨z8, hz8⟩ : ∃ y9 : gM, y9 = f_r_programs z.2.2 z6 (4 : Int32) := ⟨_, rfl⟩
        have hf := hf.trans (g_let_eq hz8)
        have hok := g_let_p hz8 hok
        have hmz8 : gMv l yX3_programs wsX3_programs rm_r_programs G shr q z.2.2 h [.ref (q 0), .int z6, .int (4 : Int32)] z8 h := by rw [hz8]; exact c_r_programs l G q z.2.2 h z6 (4 : Int32) s7
        refine x_callSv (n := 3) C hq gFr_same (hmz8) (va_cwS 3 C.2.2.2.2.2.1 gX3_collects_X3_programs rfl rfl rfl (by decide +kernel) ⟨Nat.le_of_ble_eq_true rfl, Nat.le_of_ble_eq_true rfl⟩) rfl rfl (Nat.le_of_ble_eq_true rfl) dX3_collects_35 (Nat.zero_le _) (Nat.zero_le _) ?_
        refine x_aload_n C dX3_collects_38 rfl 0 rfl ?_
        refine x_sipush (v := (144 : Int32)) C dX3_collects_39 (by decide) ?_
        refine x_iconst (v := (5 : Int32)) C dX3_collects_42 (by decide) ?_
        refine x_iload C dX3_collects_43 4 rfl ?_
        refine x_imul C dX3_collects_45 ?_
        refine x_iadd C dX3_collects_46 ?_
        refine x_iconst (v := (3 : Int32)) C dX3_collects_47 (by decide) ?_
        refine x_iadd C dX3_collects_48 ?_
        refine x_dup2 C dX3_collects_49 rfl rfl ?_
        have s9 := And.left hok
        have hok := And.right hok
        refine x_iald (n := 364) (v := (z8 0 (((144 : Int32) + ((5 : Int32) * z6)) + (3 : Int32)).toNatClampNeg)) C 0 rfl s9 rfl dX3_collects_50 ?_
        refine x_iconst (v := (1 : Int32)) C dX3_collects_51 (by decide) ?_
        refine x_iadd C dX3_collects_52 ?_
        have s10 := And.left hok
        have hok := And.right hok
        obtain ⟨z11, hz11⟩ : ∃ y9 : gM, y9 = g_set z8 0 (upd (z8 0) (((144 : Int32) + ((5 : Int32) * z6)) + (3 : Int32)).toNatClampNeg ((z8 0 (((144 : Int32) + ((5 : Int32) * z6)) + (3 : Int32)).toNatClampNeg) + (1 : Int32))) := ⟨_, rfl⟩
        have hf := hf.trans (g_let_eq hz11)
        have hok := g_let_p hz11 hok
        refine x_iast (μ' := z11) (n := 364) C hq 0 rfl s10 hz11 dX3_collects_53 ?_
        refine x_aload_n C dX3_collects_54 rfl 0 rfl ?_
        refine x_sipush (v := (144 : Int32)) C dX3_collects_55 (by decide) ?_
        refine x_iconst (v := (5 : Int32)) C dX3_collects_58 (by decide) ?_
        refine x_iload C dX3_collects_59 4 rfl ?_
        refine x_imul C dX3_collects_61 ?_
        refine x_iadd C dX3_collects_62 ?_
        refine x_iconst (v := (4 : Int32)) C dX3_collects_63 (by decide) ?_
        refine x_iadd C dX3_collects_64 ?_
        refine x_dup2 C dX3_collects_65 rfl rfl ?_
        have s12 := And.left hok
        have hok := And.right hok
        refine x_iald (n := 364) (v := (z11 0 (((144 : Int32) + ((5 : Int32) * z6)) + (4 : Int32)).toNatClampNeg)) C 0 rfl s12 rfl dX3_collects_66 ?_
        refine x_iconst (v := (1 : Int32)) C dX3_collects_67 (by decide) ?_
        refine x_iadd C dX3_collects_68 ?_
        have s13 := And.left hok
        have hok := And.right hok
        obtain ⟨z14, hz14⟩ : ∃ y9 : gM, y9 = g_set z11 0 (upd (z11 0) (((144 : Int32) + ((5 : Int32) * z6)) + (4 : Int32)).toNatClampNeg ((z11 0 (((144 : Int32) + ((5 : Int32) * z6)) + (4 : Int32)).toNatClampNeg) + (1 : Int32))) := ⟨_, rfl⟩
        have hf := hf.trans (g_let_eq hz14)
        have hok := g_let_p hz14 hok
        refine x_iast (μ' := z14) (n := 364) C hq 0 rfl s13 hz14 dX3_collects_69 ?_
        refine x_aload_n C dX3_collects_70 rfl 0 rfl ?_
        refine x_sipush (v := (354 : Int32)) C dX3_collects_71 (by decide) ?_
        refine x_aload_n C dX3_collects_74 rfl 0 rfl ?_
        refine x_iload C dX3_collects_75 4 rfl ?_
        refine x_iconst (v := (1 : Int32)) C dX3_collects_77 (by decide) ?_
        have s15 := And.left hok
        have hok := And.right hok
        refine x_callSi (n := 3) C hq gFr_same (c_r_of l G q z14 h z6 (1 : Int32) s15) (va_cwS 3 C.2.2.2.2.2.1 gX3_collects_X3_of rfl rfl rfl (by decide +kernel) ⟨Nat.le_of_ble_eq_true rfl, Nat.le_of_ble_eq_true rfl⟩) rfl rfl (Nat.le_of_ble_eq_true rfl) dX3_collects_78 (Nat.zero_le _) (Nat.zero_le _) ?_
        refine x_iadd C dX3_collects_81 ?_
        refine x_dup2 C dX3_collects_82 rfl rfl ?_
        have s16 := And.left hok
        have hok := And.right hok
        refine x_iald (n := 364) (v := (z14 0 ((354 : Int32) + (f_r_of z14 z6 (1 : Int32))).toNatClampNeg)) C 0 rfl s16 rfl dX3_collects_83 ?_
        refine x_iconst (v := (1 : Int32)) C dX3_collects_84 (by decide) ?_
        refine x_iadd C dX3_collects_85 ?_
        have s17 := And.left hok
        have hok := And.right hok
        obtain ⟨z18, hz18⟩ : ∃ y9 : gM, y9 = g_set z14 0 (upd (z14 0) ((354 : Int32) + (f_r_of z14 z6 (1 : Int32))).toNatClampNeg ((z14 0 ((354 : Int32) + (f_r_of z14 z6 (1 : Int32))).toNatClampNeg) + (1 : Int32))) := ⟨_, rfl⟩
        have hf := hf.trans (g_let_eq hz18)
        have hok := g_let_p hz18 hok
        refine x_iast (μ' := z18) (n := 364) C hq 0 rfl s17 hz18 dX3_collects_86 ?_
        obtain ⟨z19, hz19⟩ : ∃ y9 : Int32, y9 = (z.1 + (1 : Int32)) := ⟨_, rfl⟩
        have hf := hf.trans (g_let_eq hz19)
        have hok := g_let_p hz19 hok
        refine x_iinc (v := z19) (lv' := [(0, .ref (q 0)), (1, .int x1), (2, .int z19), (3, .int z.2.1), (4, .int z6)]) C dX3_collects_87 2 rfl hz19.symm (by decide) [1, 2, 0, 3, 4] rfl ?_
        obtain ⟨z20, hz20⟩ : ∃ y9 : Int32, y9 = (z.2.1 + (1 : Int32)) := ⟨_, rfl⟩
        have hf := hf.trans (g_let_eq hz20)
        have hok := g_let_p hz20 hok
        refine x_iinc (v := z20) (lv' := [(0, .ref (q 0)), (1, .int x1), (2, .int z19), (3, .int z20), (4, .int z6)]) C dX3_collects_90 3 rfl hz20.symm (by decide) [1, 2, 3, 0, 4] rfl ?_
        refine x_goto (tgt := 7) C dX3_collects_93 (by decide) ?_
        refine x_lv (lv' := [(0, .ref (q 0)), (1, .int x1), (2, .int z19), (3, .int z20)]) [0, 1, 2, 3] rfl ?_
        exact ih ((z19, z20, z18)) (rOk_t hnx hf) (fun z' hz => K0 z' ((run_t hf).trans hz))
noncomputable def L_r_collects_110 (x1 : Int32) (x2 : Int32) (z : Int32 × gM) : Bool × (Int32 × gM) := (if (((8 : Int32) * x1) + (8 : Int32)) ≤ z.1 then (false, (z.1, z.2)) else g_let (g_set z.2 0 (upd (z.2 0) z.1.toNatClampNeg (-1 : Int32))) (fun z3 : gM => g_let ((z.1 + (1 : Int32))) (fun z4 : Int32 => (true, (z4, z3)))))
noncomputable def K_r_collects_110 (x1 : Int32) (x2 : Int32) (z : Int32 × gM) : Prop := (if (((8 : Int32) * x1) + (8 : Int32)) ≤ z.1 then True else (vp_in z.1 364) ∧ (g_let (g_set z.2 0 (upd (z.2 0) z.1.toNatClampNeg (-1 : Int32))) (fun z3 : gM => g_let ((z.1 + (1 : Int32))) (fun z4 : Int32 => True))))
set_option maxRecDepth 100000 in
set_option maxHeartbeats 4000000 in
theorem lp_r_collects_110 {p : Program} {l : Launch} {e : Env} {s : State} {m9 : MethodId} {args : Array Value} {below : List Frame} {meth : Method} {c : Code} {G : gG} {A : Nat → Prop} {Q : State → Prop} {q : Nat → Nat} (C : xC p s m9 args meth c G A 5 cX3_collects RX3 wsX3_collects) (hq : gD A q shr.length) (h : gN) (x1 : Int32) (x2 : Int32) : ∀ (n : Nat) (z : Int32 × gM), rOk (L_r_collects_110 x1 x2) (K_r_collects_110 x1 x2) n z → (∀ z' : Int32 × gM, run (L_r_collects_110 x1 x2) n z = z' → xJ p l e rm_r_collects s m9 args below meth c G A 5 Q 0 0 shr q z'.2 h [(0, .ref (q 0)), (1, .int x1), (2, .int x2), (3, .int z'.1)] [] 131) → xJ p l e rm_r_collects s m9 args below meth c G A 5 Q 0 0 shr q z.2 h [(0, .ref (q 0)), (1, .int x1), (2, .int x2), (3, .int z.1)] [] 110 := by
  intro n
  induction n with
  | zero =>
    intro z hok _
    exact rOk_0 hok
  | succ n ih =>
    intro z hok K0
    have hnx := rOk_2 hok
    have hok := rOk_1 hok
    have hf := L_r_collects_110.eq_1 x1 x2 z
    have hok := Eq.mp (K_r_collects_110.eq_1 x1 x2 z) hok
    refine x_iload_n C dX3_collects_110 rfl 3 rfl ?_
    refine x_bipush (v := (8 : Int32)) C dX3_collects_111 (by decide) ?_
    refine x_iload_n C dX3_collects_113 rfl 1 rfl ?_
    refine x_imul C dX3_collects_114 ?_
    refine x_bipush (v := (8 : Int32)) C dX3_collects_115 (by decide) ?_
    refine x_iadd C dX3_collects_117 ?_
    refine x_icmp_ge (tgt := 131) C dX3_collects_118 (by decide) (fun c1 => ?_) (fun c1 => ?_)
    · have hf := hf.trans (if_pos c1)
      have hok := g_ip c1 hok
      exact K0 ((z.1, z.2)) (run_f hf)
    · have hf := hf.trans (if_neg c1)
      have hok := g_in c1 hok
      refine x_aload_n C dX3_collects_121 rfl 0 rfl ?_
      refine x_iload_n C dX3_collects_122 rfl 3 rfl ?_
      refine x_iconst (v := (-1 : Int32)) C dX3_collects_123 (by decide) ?_
      have s2 := And.left hok
      have hok := And.right hok
      obtain ⟨z3, hz3⟩ : ∃ y9 : gM, y9 = g_set z.2 0 (upd (z.2 0) z.1.toNatClampNeg (-1 : Int32)) := ⟨_, rfl⟩
      have hf := hf.trans (g_let_eq hz3)
      have hok := g_let_p hz3 hok
      refine x_iast (μ' := z3) (n := 364) C hq 0 rfl s2 hz3 dX3_collects_124 ?_
      obtain ⟨z4, hz4⟩ : ∃ y9 : Int32, y9 = (z.1 + (1 : Int32)) := ⟨_, rfl⟩
      have hf := hf.trans (g_let_eq hz4)
      have hok := g_let_p hz4 hok
      refine x_iinc (v := z4) (lv' := [(0, .ref (q 0)), (1, .int x1), (2, .int x2), (3, .int z4)]) C dX3_collects_125 3 rfl hz4.symm (by decide) [1, 2, 3, 0] rfl ?_
      refine x_goto (tgt := 110) C dX3_collects_128 (by decide) ?_
      exact ih ((z4, z3)) (rOk_t hnx hf) (fun z' hz => K0 z' ((run_t hf).trans hz))
noncomputable def f_r_collects (m : gM) (a1 : Int32) : Int32 × gM := g_let (((8 : Int32) * a1)) (fun z1 : Int32 => g_let (run (L_r_collects_7 a1) 400 (((0 : Int32), z1, m))) (fun z3 : Int32 × Int32 × gM => g_let (g_set z3.2.2 0 (upd (z3.2.2 0) (361 : Int32).toNatClampNeg ((z3.2.2 0 (361 : Int32).toNatClampNeg) + z3.1))) (fun z4 : gM => g_let (((8 : Int32) * a1)) (fun z5 : Int32 => g_let (run (L_r_collects_110 a1 z3.1) 400 ((z5, z4))) (fun z7 : Int32 × gM => g_let (g_set z7.2 0 (upd (z7.2 0) ((96 : Int32) + a1).toNatClampNeg (0 : Int32))) (fun z9 : gM => g_let (g_set z9 0 (upd (z9 0) ((108 : Int32) + a1).toNatClampNeg (-1 : Int32))) (fun z11 : gM => g_let (g_set z11 0 (upd (z11 0) ((120 : Int32) + a1).toNatClampNeg ((z11 0 ((120 : Int32) + a1).toNatClampNeg) + (1 : Int32)))) (fun z14 : gM => g_let (g_set z14 0 (upd (z14 0) (362 : Int32).toNatClampNeg ((z14 0 (362 : Int32).toNatClampNeg) + (1 : Int32)))) (fun z15 : gM => (z3.1, z15))))))))))
noncomputable def o_r_collects (m : gM) (a1 : Int32) : Prop := g_let (((8 : Int32) * a1)) (fun z1 : Int32 => (rOk (L_r_collects_7 a1) (K_r_collects_7 a1) 400 (((0 : Int32), z1, m))) ∧ (g_let (run (L_r_collects_7 a1) 400 (((0 : Int32), z1, m))) (fun z3 : Int32 × Int32 × gM => g_let (g_set z3.2.2 0 (upd (z3.2.2 0) (361 : Int32).toNatClampNeg ((z3.2.2 0 (361 : Int32).toNatClampNeg) + z3.1))) (fun z4 : gM => g_let (((8 : Int32) * a1)) (fun z5 : Int32 => (rOk (L_r_collects_110 a1 z3.1) (K_r_collects_110 a1 z3.1) 400 ((z5, z4))) ∧ (g_let (run (L_r_collects_110 a1 z3.1) 400 ((z5, z4))) (fun z7 : Int32 × gM => (vp_in ((96 : Int32) + a1) 364) ∧ (g_let (g_set z7.2 0 (upd (z7.2 0) ((96 : Int32) + a1).toNatClampNeg (0 : Int32))) (fun z9 : gM => (vp_in ((108 : Int32) + a1) 364) ∧ (g_let (g_set z9 0 (upd (z9 0) ((108 : Int32) + a1).toNatClampNeg (-1 : Int32))) (fun z11 : gM => (vp_in ((120 : Int32) + a1) 364) ∧ ((vp_in ((120 : Int32) + a1) 364) ∧ (g_let (g_set z11 0 (upd (z11 0) ((120 : Int32) + a1).toNatClampNeg ((z11 0 ((120 : Int32) + a1).toNatClampNeg) + (1 : Int32)))) (fun z14 : gM => g_let (g_set z14 0 (upd (z14 0) (362 : Int32).toNatClampNeg ((z14 0 (362 : Int32).toNatClampNeg) + (1 : Int32)))) (fun z15 : gM => True)))))))))))))))
set_option maxRecDepth 100000 in
set_option maxHeartbeats 4000000 in
theorem c_r_collects (l : Launch) (G : gG) (q : Nat → Nat) (m : gM) (h : gN) (a1 : Int32) (hok : o_r_collects m a1) : gMi l yX3_collects wsX3_collects rm_r_collects G shr q m h [.ref (q 0), .int a1] ((f_r_collects m a1).2) h ((f_r_collects m a1).1) := by
  intro sz
  refine g_met (cc := cX3_collects) (maxL := 5) (ret := (some .int)) (own := RX3) (Qc := fun sz => gQi G shr q ((f_r_collects m a1).2) h sz ((f_r_collects m a1).1)) (by decide) rfl rfl (Nat.le_of_ble_eq_true rfl) (fun p e s m9 below meth c C hq hr => ?_)
  refine x_lv (lv' := [(0, .ref (q 0)), (1, .int a1)]) [0, 1] rfl ?_
  have hf := f_r_collects.eq_1 m a1
  have hok := Eq.mp (o_r_collects.eq_1 m a1) hok
  refine x_iconst (v := (0 : Int32)) C dX3_collects_0 (by decide) ?_
  refine x_istore_n (lv' := [(0, .ref (q 0)), (1, .int a1), (2, .int (0 : Int32))]) C dX3_collects_1 rfl (by decide) [1, 2, 0] rfl ?_
  refine x_bipush (v := (8 : Int32)) C dX3_collects_2 (by decide) ?_
  refine x_iload_n C dX3_collects_4 rfl 1 rfl ?_
  refine x_imul C dX3_collects_5 ?_
  obtain ⟨z1, hz1⟩ : ∃ y9 : Int32, y9 = ((8 : Int32) * a1) := ⟨_, rfl⟩
  have hf := hf.trans (g_let_eq hz1)
  have hok := g_let_p hz1 hok
  refine x_topi hz1 ?_
  refine x_istore_n (lv' := [(0, .ref (q 0)), (1, .int a1), (2, .int (0 : Int32)), (3, .int z1)]) C dX3_collects_6 rfl (by decide) [1, 2, 3, 0] rfl ?_
  have s2 := And.left hok
  have hok := And.right hok
  refine lp_r_collects_7 C hq h a1 400 (((0 : Int32), z1, m)) s2 (fun z3 hz3 => ?_)
  have hf := hf.trans (g_let_eq hz3.symm)
  have hok := g_let_p hz3.symm hok
  refine x_aload_n C dX3_collects_96 rfl 0 rfl ?_
  refine x_sipush (v := (361 : Int32)) C dX3_collects_97 (by decide) ?_
  refine x_dup2 C dX3_collects_100 rfl rfl ?_
  refine x_iald (n := 364) (v := (z3.2.2 0 (361 : Int32).toNatClampNeg)) C 0 rfl (by unfold vp_in; decide) rfl dX3_collects_101 ?_
  refine x_iload_n C dX3_collects_102 rfl 2 rfl ?_
  refine x_iadd C dX3_collects_103 ?_
  obtain ⟨z4, hz4⟩ : ∃ y9 : gM, y9 = g_set z3.2.2 0 (upd (z3.2.2 0) (361 : Int32).toNatClampNeg ((z3.2.2 0 (361 : Int32).toNatClampNeg) + z3.1)) := ⟨_, rfl⟩
  have hf := hf.trans (g_let_eq hz4)
  have hok := g_let_p hz4 hok
  refine x_iast (μ' := z4) (n := 364) C hq 0 rfl (by unfold vp_in; decide) hz4 dX3_collects_104 ?_
  refine x_bipush (v := (8 : Int32)) C dX3_collects_105 (by decide) ?_
  refine x_iload_n C dX3_collects_107 rfl 1 rfl ?_
  refine x_imul C dX3_collects_108 ?_
  obtain ⟨z5, hz5⟩ : ∃ y9 : Int32, y9 = ((8 : Int32) * a1) := ⟨_, rfl⟩
  have hf := hf.trans (g_let_eq hz5)
  have hok := g_let_p hz5 hok
  refine x_topi hz5 ?_
  refine x_istore_n (lv' := [(0, .ref (q 0)), (1, .int a1), (2, .int z3.1), (3, .int z5)]) C dX3_collects_109 rfl (by decide) [1, 2, 3, 0] rfl ?_
  have s6 := And.left hok
  have hok := And.right hok
  refine lp_r_collects_110 C hq h a1 z3.1 400 ((z5, z4)) s6 (fun z7 hz7 => ?_)
  have hf := hf.trans (g_let_eq hz7.symm)
  have hok := g_let_p hz7.symm hok
  refine x_aload_n C dX3_collects_131 rfl 0 rfl ?_
  refine x_bipush (v := (96 : Int32)) C dX3_collects_132 (by decide) ?_
  refine x_iload_n C dX3_collects_134 rfl 1 rfl ?_
  refine x_iadd C dX3_collects_135 ?_
  refine x_iconst (v := (0 : Int32)) C dX3_collects_136 (by decide) ?_
  have s8 := And.left hok
  have hok := And.right hok
  obtain ⟨z9, hz9⟩ : ∃ y9 : gM, y9 = g_set z7.2 0 (upd (z7.2 0) ((96 : Int32) + a1).toNatClampNeg (0 : Int32)) := ⟨_, rfl⟩
  have hf := hf.trans (g_let_eq hz9)
  have hok := g_let_p hz9 hok
  refine x_iast (μ' := z9) (n := 364) C hq 0 rfl s8 hz9 dX3_collects_137 ?_
  refine x_aload_n C dX3_collects_138 rfl 0 rfl ?_
  refine x_bipush (v := (108 : Int32)) C dX3_collects_139 (by decide) ?_
  refine x_iload_n C dX3_collects_141 rfl 1 rfl ?_
  refine x_iadd C dX3_collects_142 ?_
  refine x_iconst (v := (-1 : Int32)) C dX3_collects_143 (by decide) ?_
  have s10 := And.left hok
  have hok := And.right hok
  obtain ⟨z11, hz11⟩ : ∃ y9 : gM, y9 = g_set z9 0 (upd (z9 0) ((108 : Int32) + a1).toNatClampNeg (-1 : Int32)) := ⟨_, rfl⟩
  have hf := hf.trans (g_let_eq hz11)
  have hok := g_let_p hz11 hok
  refine x_iast (μ' := z11) (n := 364) C hq 0 rfl s10 hz11 dX3_collects_144 ?_
  refine x_aload_n C dX3_collects_145 rfl 0 rfl ?_
  refine x_bipush (v := (120 : Int32)) C dX3_collects_146 (by decide) ?_
  refine x_iload_n C dX3_collects_148 rfl 1 rfl ?_
  refine x_iadd C dX3_collects_149 ?_
  refine x_dup2 C dX3_collects_150 rfl rfl ?_
  have s12 := And.left hok
  have hok := And.right hok
  refine x_iald (n := 364) (v := (z11 0 ((120 : Int32) + a1).toNatClampNeg)) C 0 rfl s12 rfl dX3_collects_151 ?_
  refine x_iconst (v := (1 : Int32)) C dX3_collects_152 (by decide) ?_
  refine x_iadd C dX3_collects_153 ?_
  have s13 := And.left hok
  have hok := And.right hok
  obtain ⟨z14, hz14⟩ : ∃ y9 : gM, y9 = g_set z11 0 (upd (z11 0) ((120 : Int32) + a1).toNatClampNeg ((z11 0 ((120 : Int32) + a1).toNatClampNeg) + (1 : Int32))) := ⟨_, rfl⟩
  have hf := hf.trans (g_let_eq hz14)
  have hok := g_let_p hz14 hok
  refine x_iast (μ' := z14) (n := 364) C hq 0 rfl s13 hz14 dX3_collects_154 ?_
  refine x_aload_n C dX3_collects_155 rfl 0 rfl ?_
  refine x_sipush (v := (362 : Int32)) C dX3_collects_156 (by decide) ?_
  refine x_dup2 C dX3_collects_159 rfl rfl ?_
  refine x_iald (n := 364) (v := (z14 0 (362 : Int32).toNatClampNeg)) C 0 rfl (by unfold vp_in; decide) rfl dX3_collects_160 ?_
  refine x_iconst (v := (1 : Int32)) C dX3_collects_161 (by decide) ?_
  refine x_iadd C dX3_collects_162 ?_
  obtain ⟨z15, hz15⟩ : ∃ y9 : gM, y9 = g_set z14 0 (upd (z14 0) (362 : Int32).toNatClampNeg ((z14 0 (362 : Int32).toNatClampNeg) + (1 : Int32))) := ⟨_, rfl⟩
  have hf := hf.trans (g_let_eq hz15)
  have hok := g_let_p hz15 hok
  refine x_iast (μ' := z15) (n := 364) C hq 0 rfl (by unfold vp_in; decide) hz15 dX3_collects_163 ?_
  refine x_iload_n C dX3_collects_164 rfl 2 rfl ?_
  exact g_iret C hr rfl dX3_collects_165 (congrArg (fun z => z.1) hf).symm (congrArg (fun z => z.2) hf).symm rfl
abbrev rm_r_weight : Room := { frames := 0, cells := 0, slots := 0, locals := 0 }
noncomputable def f_r_weight (m : gM) (a1 : Int32) : Int32 := (if (m 0 (358 : Int32).toNatClampNeg) = 0 then (0 : Int32) else (if (m 0 (358 : Int32).toNatClampNeg) = (1 : Int32) then (m 0 ((132 : Int32) + a1).toNatClampNeg) else (m 0 ((120 : Int32) + a1).toNatClampNeg)))
noncomputable def o_r_weight (m : gM) (a1 : Int32) : Prop := (if (m 0 (358 : Int32).toNatClampNeg) = 0 then True else (if (m 0 (358 : Int32).toNatClampNeg) = (1 : Int32) then (vp_in ((132 : Int32) + a1) 364) ∧ (True) else (vp_in ((120 : Int32) + a1) 364) ∧ (True)))
set_option maxRecDepth 100000 in
set_option maxHeartbeats 4000000 in
theorem c_r_weight (l : Launch) (G : gG) (q : Nat → Nat) (m : gM) (h : gN) (a1 : Int32) (hok : o_r_weight m a1) : gMi l yX3_weight wsX3_weight rm_r_weight G shr q m h [.ref (q 0), .int a1] m h (f_r_weight m a1) := by
  intro sz
  refine g_met (cc := cX3_weight) (maxL := 2) (ret := (some .int)) (own := RX3) (Qc := fun sz => gQi G shr q m h sz (f_r_weight m a1)) (by decide) rfl rfl (Nat.le_of_ble_eq_true rfl) (fun p e s m9 below meth c C hq hr => ?_)
  refine x_lv (lv' := [(0, .ref (q 0)), (1, .int a1)]) [0, 1] rfl ?_
  have hf := f_r_weight.eq_1 m a1
  have hok := Eq.mp (o_r_weight.eq_1 m a1) hok
  refine x_aload_n C dX3_weight_0 rfl 0 rfl ?_
  refine x_sipush (v := (358 : Int32)) C dX3_weight_1 (by decide) ?_
  refine x_iald (n := 364) (v := (m 0 (358 : Int32).toNatClampNeg)) C 0 rfl (by unfold vp_in; decide) rfl dX3_weight_4 ?_
  refine x_if_ne (tgt := 12) C dX3_weight_5 (by decide) (fun c1 => ?_) (fun c1 => ?_)
  · have hf := hf.trans (if_neg c1)
    have hok := g_in c1 hok
    refine x_aload_n C dX3_weight_12 rfl 0 rfl ?_
    refine x_sipush (v := (358 : Int32)) C dX3_weight_13 (by decide) ?_
    refine x_iald (n := 364) (v := (m 0 (358 : Int32).toNatClampNeg)) C 0 rfl (by unfold vp_in; decide) rfl dX3_weight_16 ?_
    refine x_iconst (v := (1 : Int32)) C dX3_weight_17 (by decide) ?_
    refine x_icmp_ne (tgt := 31) C dX3_weight_18 (by decide) (fun c2 => ?_) (fun c2 => ?_)
    · have hf := hf.trans (if_neg c2)
      have hok := g_in c2 hok
      refine x_aload_n C dX3_weight_31 rfl 0 rfl ?_
      refine x_bipush (v := (120 : Int32)) C dX3_weight_32 (by decide) ?_
      refine x_iload_n C dX3_weight_34 rfl 1 rfl ?_
      refine x_iadd C dX3_weight_35 ?_
      have s3 := And.left hok
      have hok := And.right hok
      refine x_iald (n := 364) (v := (m 0 ((120 : Int32) + a1).toNatClampNeg)) C 0 rfl s3 rfl dX3_weight_36 ?_
      exact g_iret C hr rfl dX3_weight_37 hf.symm rfl rfl
    · have hf := hf.trans (if_pos c2)
      have hok := g_ip c2 hok
      refine x_aload_n C dX3_weight_21 rfl 0 rfl ?_
      refine x_sipush (v := (132 : Int32)) C dX3_weight_22 (by decide) ?_
      refine x_iload_n C dX3_weight_25 rfl 1 rfl ?_
      refine x_iadd C dX3_weight_26 ?_
      have s4 := And.left hok
      have hok := And.right hok
      refine x_iald (n := 364) (v := (m 0 ((132 : Int32) + a1).toNatClampNeg)) C 0 rfl s4 rfl dX3_weight_27 ?_
      refine x_goto (tgt := 37) C dX3_weight_28 (by decide) ?_
      exact g_iret C hr rfl dX3_weight_37 hf.symm rfl rfl
  · have hf := hf.trans (if_pos c1)
    have hok := g_ip c1 hok
    refine x_iconst (v := (0 : Int32)) C dX3_weight_8 (by decide) ?_
    refine x_goto (tgt := 37) C dX3_weight_9 (by decide) ?_
    exact g_iret C hr rfl dX3_weight_37 hf.symm rfl rfl
abbrev rm_r_victim : Room := { frames := 3, cells := 0, slots := 0, locals := 68 }
noncomputable def L_r_victim_4 (m : gM) (z : Int32 × Int32) : Bool × (Int32 × Int32) := (if (12 : Int32) ≤ z.2 then (false, (z.1, z.2)) else (if (m 0 ((96 : Int32) + z.2).toNatClampNeg) = (2 : Int32) then (if (f_r_slots m z.2 (1 : Int32)) ≤ 0 then g_let ((z.2 + (1 : Int32))) (fun z7 : Int32 => (true, (z.1, z7))) else (if z.1 = (-1 : Int32) then (if z.1 = (-1 : Int32) then g_let ((z.2 + (1 : Int32))) (fun z33 : Int32 => (true, (z.2, z33))) else g_let (((f_r_slots m z.2 (0 : Int32)) - (f_r_slots m z.1 (0 : Int32)))) (fun z31 : Int32 => g_let ((z.2 + (1 : Int32))) (fun z32 : Int32 => (true, (z.2, z32))))) else g_let (((f_r_weight m z.2) - (f_r_weight m z.1))) (fun z11 : Int32 => (if z.1 = (-1 : Int32) then (if z11 < 0 then g_let ((z.2 + (1 : Int32))) (fun z24 : Int32 => (true, (z.2, z24))) else (if z11 = 0 then g_let ((z.2 + (1 : Int32))) (fun z27 : Int32 => (true, (z.2, z27))) else g_let ((z.2 + (1 : Int32))) (fun z26 : Int32 => (true, (z.1, z26))))) else g_let (((f_r_slots m z.2 (0 : Int32)) - (f_r_slots m z.1 (0 : Int32)))) (fun z15 : Int32 => (if z11 < 0 then g_let ((z.2 + (1 : Int32))) (fun z17 : Int32 => (true, (z.2, z17))) else (if z11 = 0 then (if 0 ≤ z15 then g_let ((z.2 + (1 : Int32))) (fun z21 : Int32 => (true, (z.1, z21))) else g_let ((z.2 + (1 : Int32))) (fun z22 : Int32 => (true, (z.2, z22)))) else g_let ((z.2 + (1 : Int32))) (fun z19 : Int32 => (true, (z.1, z19)))))))))) else g_let ((z.2 + (1 : Int32))) (fun z4 : Int32 => (true, (z.1, z4)))))
noncomputable def K_r_victim_4 (m : gM) (z : Int32 × Int32) : Prop := (if (12 : Int32) ≤ z.2 then True else (vp_in ((96 : Int32) + z.2) 364) ∧ ((if (m 0 ((96 : Int32) + z.2).toNatClampNeg) = (2 : Int32) then (o_r_slots m z.2 (1 : Int32)) ∧ ((if (f_r_slots m z.2 (1 : Int32)) ≤ 0 then g_let ((z.2 + (1 : Int32))) (fun z7 : Int32 => True) else (if z.1 = (-1 : Int32) then (if z.1 = (-1 : Int32) then g_let ((z.2 + (1 : Int32))) (fun z33 : Int32 => True) else (o_r_slots m z.2 (0 : Int32)) ∧ ((o_r_slots m z.1 (0 : Int32)) ∧ (g_let (((f_r_slots m z.2 (0 : Int32)) - (f_r_slots m z.1 (0 : Int32)))) (fun z31 : Int32 => g_let ((z.2 + (1 : Int32))) (fun z32 : Int32 => True))))) else (o_r_weight m z.2) ∧ ((o_r_weight m z.1) ∧ (g_let (((f_r_weight m z.2) - (f_r_weight m z.1))) (fun z11 : Int32 => (if z.1 = (-1 : Int32) then (if z11 < 0 then g_let ((z.2 + (1 : Int32))) (fun z24 : Int32 => True) else (if z11 = 0 then g_let ((z.2 + (1 : Int32))) (fun z27 : Int32 => True) else g_let ((z.2 + (1 : Int32))) (fun z26 : Int32 => True))) else (o_r_slots m z.2 (0 : Int32)) ∧ ((o_r_slots m z.1 (0 : Int32)) ∧ (g_let (((f_r_slots m z.2 (0 : Int32)) - (f_r_slots m z.1 (0 : Int32)))) (fun z15 : Int32 => (if z11 < 0 then g_let ((z.2 + (1 : Int32))) (fun z17 : Int32 => True) else (if z11 = 0 then (if 0 ≤ z15 then g_let ((z.2 + (1 : Int32))) (fun z21 : Int32 => True) else g_let ((z.2 + (1 : Int32))) (fun z22 : Int32 => True)) else g_let ((z.2 + (1 : Int32))) (fun z19 : Int32 => True))))))))))))) else g_let ((z.2 + (1 : Int32))) (fun z4 : Int32 => True))))
set_option maxRecDepth 100000 in
set_option maxHeartbeats 4000000 in
theorem lp_r_victim_4 {p : Program} {l : Launch} {e : Env} {s : State} {m9 : MethodId} {args : Array Value} {below : List Frame} {meth : Method} {c : Code} {G : gG} {A : Nat → Prop} {Q : State → Prop} {q : Nat → Nat} (C : xC p s m9 args meth c G A 5 cX3_victim RX3 wsX3_victim) (hq : gD A q shr.length) (m : gM) (h : gN) : ∀ (n : Nat) (z : Int32 × Int32), rOk (L_r_victim_4 m) (K_r_victim_4 m) n z → (∀ z' : Int32 × Int32, run (L_r_victim_4 m) n z = z' → xJ p l e rm_r_victim s m9 args below meth c G A 5 Q 0 0 shr q m h [(0, .ref (q 0)), (1, .int z'.1), (2, .int z'.2)] [] 99) → xJ p l e rm_r_victim s m9 args below meth c G A 5 Q 0 0 shr q m h [(0, .ref (q 0)), (1, .int z.1), (2, .int z.2)] [] 4 := by
  intro n
  induction n with
  | zero =>
    intro z hok _
    exact rOk_0 hok
  | succ n ih =>
    intro z hok K0
    have hnx := rOk_2 hok
    have hok := rOk_1 hok
    have hf := L_r_victim_4.eq_1 m z
    have hok := Eq.mp (K_r_victim_4.eq_1 m z) hok
    refine x_iload_n C dX3_victim_4 rfl 2 rfl ?_
    refine x_bipush (v := (12 : Int32)) C dX3_victim_5 (by decide) ?_
    refine x_icmp_ge (tgt := 99) C dX3_victim_7 (by decide) (fun c1 => ?_) (fun c1 => ?_)
    · have hf := hf.trans (if_pos c1)
      have hok := g_ip c1 hok
      exact K0 ((z.1, z.2)) (run_f hf)
    · have hf := hf.trans (if_neg c1)
      have hok := g_in c1 hok
      refine x_aload_n C dX3_victim_10 rfl 0 rfl ?_
      refine x_bipush (v := (96 : Int32)) C dX3_victim_11 (by decide) ?_
      refine x_iload_n C dX3_victim_13 rfl 2 rfl ?_
      refine x_iadd C dX3_victim_14 ?_
      have s2 := And.left hok
      have hok := And.right hok
      refine x_iald (n := 364) (v := (m 0 ((96 : Int32) + z.2).toNatClampNeg)) C 0 rfl s2 rfl dX3_victim_15 ?_
      refine x_iconst (v := (2 : Int32)) C dX3_victim_16 (by decide) ?_
      refine x_icmp_ne (tgt := 93) C dX3_victim_17 (by decide) (fun c3 => ?_) (fun c3 => ?_)
      · have hf := hf.trans (if_neg c3)
        have hok := g_in c3 hok
        obtain ⟨z4, hz4⟩ : ∃ y9 : Int32, y9 = (z.2 + (1 : Int32)) := ⟨_, rfl⟩
        have hf := hf.trans (g_let_eq hz4)
        have hok := g_let_p hz4 hok
        refine x_iinc (v := z4) (lv' := [(0, .ref (q 0)), (1, .int z.1), (2, .int z4)]) C dX3_victim_93 2 rfl hz4.symm (by decide) [1, 2, 0] rfl ?_
        refine x_goto (tgt := 4) C dX3_victim_96 (by decide) ?_
        exact ih ((z.1, z4)) (rOk_t hnx hf) (fun z' hz => K0 z' ((run_t hf).trans hz))
      · have hf := hf.trans (if_pos c3)
        have hok := g_ip c3 hok
        refine x_aload_n C dX3_victim_20 rfl 0 rfl ?_
        refine x_iload_n C dX3_victim_21 rfl 2 rfl ?_
        refine x_iconst (v := (1 : Int32)) C dX3_victim_22 (by decide) ?_
        have s5 := And.left hok
        have hok := And.right hok
        refine x_callSi (n := 3) C hq gFr_same (c_r_slots l G q m h z.2 (1 : Int32) s5) (va_cwS 3 C.2.2.2.2.2.1 gX3_victim_X3_slots rfl rfl rfl (by decide +kernel) ⟨Nat.le_of_ble_eq_true rfl, Nat.le_of_ble_eq_true rfl⟩) rfl rfl (Nat.le_of_ble_eq_true rfl) dX3_victim_23 (Nat.zero_le _) (Nat.zero_le _) ?_
        refine x_if_le (tgt := 93) C dX3_victim_26 (by decide) (fun c6 => ?_) (fun c6 => ?_)
        · have hf := hf.trans (if_pos c6)
          have hok := g_ip c6 hok
          obtain ⟨z7, hz7⟩ : ∃ y9 : Int32, y9 = (z.2 + (1 : Int32)) := ⟨_, rfl⟩
          have hf := hf.trans (g_let_eq hz7)
          have hok := g_let_p hz7 hok
          refine x_iinc (v := z7) (lv' := [(0, .ref (q 0)), (1, .int z.1), (2, .int z7)]) C dX3_victim_93 2 rfl hz7.symm (by decide) [1, 2, 0] rfl ?_
          refine x_goto (tgt := 4) C dX3_victim_96 (by decide) ?_
          exact ih ((z.1, z7)) (rOk_t hnx hf) (fun z' hz => K0 z' ((run_t hf).trans hz))
        · have hf := hf.trans (if_neg c6)
          have hok := g_in c6 hok
          refine x_iload_n C dX3_victim_29 rfl 1 rfl ?_
          refine x_iconst (v := (-1 : Int32)) C dX3_victim_30 (by decide) ?_
          refine x_icmp_ne (tgt := 38) C dX3_victim_31 (by decide) (fun c8 => ?_) (fun c8 => ?_)
          · have hf := hf.trans (if_neg c8)
            have hok := g_in c8 hok
            refine x_aload_n C dX3_victim_38 rfl 0 rfl ?_
            refine x_iload_n C dX3_victim_39 rfl 2 rfl ?_
            have s9 := And.left hok
            have hok := And.right hok
            refine x_callSi (n := 2) C hq gFr_same (c_r_weight l G q m h z.2 s9) (va_cwS 2 C.2.2.2.2.2.1 gX3_victim_X3_weight rfl rfl rfl (by decide +kernel) ⟨Nat.le_of_ble_eq_true rfl, Nat.le_of_ble_eq_true rfl⟩) rfl rfl (Nat.le_of_ble_eq_true rfl) dX3_victim_40 (Nat.zero_le _) (Nat.zero_le _) ?_
            refine x_aload_n C dX3_victim_43 rfl 0 rfl ?_
            refine x_iload_n C dX3_victim_44 rfl 1 rfl ?_
            have s10 := And.left hok
            have hok := And.right hok
            refine x_callSi (n := 2) C hq gFr_same (c_r_weight l G q m h z.1 s10) (va_cwS 2 C.2.2.2.2.2.1 gX3_victim_X3_weight rfl rfl rfl (by decide +kernel) ⟨Nat.le_of_ble_eq_true rfl, Nat.le_of_ble_eq_true rfl⟩) rfl rfl (Nat.le_of_ble_eq_true rfl) dX3_victim_45 (Nat.zero_le _) (Nat.zero_le _) ?_
            refine x_isub C dX3_victim_48 ?_
            obtain ⟨z11, hz11⟩ : ∃ y9 : Int32, y9 = ((f_r_weight m z.2) - (f_r_weight m z.1)) := ⟨_, rfl⟩
            have hf := hf.trans (g_let_eq hz11)
            have hok := g_let_p hz11 hok
            refine x_topi hz11 ?_
            refine x_istore_n (lv' := [(0, .ref (q 0)), (1, .int z.1), (2, .int z.2), (3, .int z11)]) C dX3_victim_49 rfl (by decide) [1, 2, 3, 0] rfl ?_
            refine x_iload_n C dX3_victim_50 rfl 1 rfl ?_
            refine x_iconst (v := (-1 : Int32)) C dX3_victim_51 (by decide) ?_
            refine x_icmp_ne (tgt := 59) C dX3_victim_52 (by decide) (fun c12 => ?_) (fun c12 => ?_)
            · have hf := hf.trans (if_neg c12)
              have hok := g_in c12 hok
              refine x_aload_n C dX3_victim_59 rfl 0 rfl ?_
              refine x_iload_n C dX3_victim_60 rfl 2 rfl ?_
              refine x_iconst (v := (0 : Int32)) C dX3_victim_61 (by decide) ?_
              have s13 := And.left hok
              have hok := And.right hok
              refine x_callSi (n := 3) C hq gFr_same (c_r_slots l G q m h z.2 (0 : Int32) s13) (va_cwS 3 C.2.2.2.2.2.1 gX3_victim_X3_slots rfl rfl rfl (by decide +kernel) ⟨Nat.le_of_ble_eq_true rfl, Nat.le_of_ble_eq_true rfl⟩) rfl rfl (Nat.le_of_ble_eq_true rfl) dX3_victim_62 (Nat.zero_le _) (Nat.zero_le _) ?_
              refine x_aload_n C dX3_victim_65 rfl 0 rfl ?_
              refine x_iload_n C dX3_victim_66 rfl 1 rfl ?_
              refine x_iconst (v := (0 : Int32)) C dX3_victim_67 (by decide) ?_
              have s14 := And.left hok
              have hok := And.right hok
              refine x_callSi (n := 3) C hq gFr_same (c_r_slots l G q m h z.1 (0 : Int32) s14) (va_cwS 3 C.2.2.2.2.2.1 gX3_victim_X3_slots rfl rfl rfl (by decide +kernel) ⟨Nat.le_of_ble_eq_true rfl, Nat.le_of_ble_eq_true rfl⟩) rfl rfl (Nat.le_of_ble_eq_true rfl) dX3_victim_68 (Nat.zero_le _) (Nat.zero_le _) ?_
              refine x_isub C dX3_victim_71 ?_
              obtain ⟨z15, hz15⟩ : ∃ y9 : Int32, y9 = ((f_r_slots m z.2 (0 : Int32)) - (f_r_slots m z.1 (0 : Int32))) := ⟨_, rfl⟩
              have hf := hf.trans (g_let_eq hz15)
              have hok := g_let_p hz15 hok
              refine x_topi hz15 ?_
              refine x_istore (lv' := [(0, .ref (q 0)), (1, .int z.1), (2, .int z.2), (3, .int z11), (4, .int z15)]) C dX3_victim_72 (by decide) [1, 2, 3, 4, 0] rfl ?_
              refine x_iload_n C dX3_victim_74 rfl 3 rfl ?_
              refine x_if_lt (tgt := 87) C dX3_victim_75 (by decide) (fun c16 => ?_) (fun c16 => ?_)
              · have hf := hf.trans (if_pos c16)
                have hok := g_ip c16 hok
                refine x_iload_n C dX3_victim_87 rfl 2 rfl ?_
                refine x_goto (tgt := 92) C dX3_victim_88 (by decide) ?_
                refine x_istore_n (lv' := [(0, .ref (q 0)), (1, .int z.2), (2, .int z.2), (3, .int z11), (4, .int z15)]) C dX3_victim_92 rfl (by decide) [1, 0, 2, 3, 4] rfl ?_
                obtain ⟨z17, hz17⟩ : ∃ y9 : Int32, y9 = (z.2 + (1 : Int32)) := ⟨_, rfl⟩
                have hf := hf.trans (g_let_eq hz17)
                have hok := g_let_p hz17 hok
                refine x_iinc (v := z17) (lv' := [(0, .ref (q 0)), (1, .int z.2), (2, .int z17), (3, .int z11), (4, .int z15)]) C dX3_victim_93 2 rfl hz17.symm (by decide) [1, 2, 0, 3, 4] rfl ?_
                refine x_goto (tgt := 4) C dX3_victim_96 (by decide) ?_
                refine x_lv (lv' := [(0, .ref (q 0)), (1, .int z.2), (2, .int z17)]) [0, 1, 2] rfl ?_
                exact ih ((z.2, z17)) (rOk_t hnx hf) (fun z' hz => K0 z' ((run_t hf).trans hz))
              · have hf := hf.trans (if_neg c16)
                have hok := g_in c16 hok
                refine x_iload_n C dX3_victim_78 rfl 3 rfl ?_
                refine x_if_ne (tgt := 91) C dX3_victim_79 (by decide) (fun c18 => ?_) (fun c18 => ?_)
                · have hf := hf.trans (if_neg c18)
                  have hok := g_in c18 hok
                  refine x_iload_n C dX3_victim_91 rfl 1 rfl ?_
                  refine x_istore_n (lv' := [(0, .ref (q 0)), (1, .int z.1), (2, .int z.2), (3, .int z11), (4, .int z15)]) C dX3_victim_92 rfl (by decide) [1, 0, 2, 3, 4] rfl ?_
                  obtain ⟨z19, hz19⟩ : ∃ y9 : Int32, y9 = (z.2 + (1 : Int32)) := ⟨_, rfl⟩
                  have hf := hf.trans (g_let_eq hz19)
                  have hok := g_let_p hz19 hok
                  refine x_iinc (v := z19) (lv' := [(0, .ref (q 0)), (1, .int z.1), (2, .int z19), (3, .int z11), (4, .int z15)]) C dX3_victim_93 2 rfl hz19.symm (by decide) [1, 2, 0, 3, 4] rfl ?_
                  refine x_goto (tgt := 4) C dX3_victim_96 (by decide) ?_
                  refine x_lv (lv' := [(0, .ref (q 0)), (1, .int z.1), (2, .int z19)]) [0, 1, 2] rfl ?_
                  exact ih ((z.1, z19)) (rOk_t hnx hf) (fun z' hz => K0 z' ((run_t hf).trans hz))
                · have hf := hf.trans (if_pos c18)
                  have hok := g_ip c18 hok
                  refine x_iload C dX3_victim_82 4 rfl ?_
                  refine x_if_ge (tgt := 91) C dX3_victim_84 (by decide) (fun c20 => ?_) (fun c20 => ?_)
                  · have hf := hf.trans (if_pos c20)
                    have hok := g_ip c20 hok
                    refine x_iload_n C dX3_victim_91 rfl 1 rfl ?_
                    refine x_istore_n (lv' := [(0, .ref (q 0)), (1, .int z.1), (2, .int z.2), (3, .int z11), (4, .int z15)]) C dX3_victim_92 rfl (by decide) [1, 0, 2, 3, 4] rfl ?_
                    obtain ⟨z21, hz21⟩ : ∃ y9 : Int32, y9 = (z.2 + (1 : Int32)) := ⟨_, rfl⟩
                    have hf := hf.trans (g_let_eq hz21)
                    have hok := g_let_p hz21 hok
                    refine x_iinc (v := z21) (lv' := [(0, .ref (q 0)), (1, .int z.1), (2, .int z21), (3, .int z11), (4, .int z15)]) C dX3_victim_93 2 rfl hz21.symm (by decide) [1, 2, 0, 3, 4] rfl ?_
                    refine x_goto (tgt := 4) C dX3_victim_96 (by decide) ?_
                    refine x_lv (lv' := [(0, .ref (q 0)), (1, .int z.1), (2, .int z21)]) [0, 1, 2] rfl ?_
                    exact ih ((z.1, z21)) (rOk_t hnx hf) (fun z' hz => K0 z' ((run_t hf).trans hz))
                  · have hf := hf.trans (if_neg c20)
                    have hok := g_in c20 hok
                    refine x_iload_n C dX3_victim_87 rfl 2 rfl ?_
                    refine x_goto (tgt := 92) C dX3_victim_88 (by decide) ?_
                    refine x_istore_n (lv' := [(0, .ref (q 0)), (1, .int z.2), (2, .int z.2), (3, .int z11), (4, .int z15)]) C dX3_victim_92 rfl (by decide) [1, 0, 2, 3, 4] rfl ?_
                    obtain ⟨z22, hz22⟩ : ∃ y9 : Int32, y9 = (z.2 + (1 : Int32)) := ⟨_, rfl⟩
                    have hf := hf.trans (g_let_eq hz22)
                    have hok := g_let_p hz22 hok
                    refine x_iinc (v := z22) (lv' := [(0, .ref (q 0)), (1, .int z.2), (2, .int z22), (3, .int z11), (4, .int z15)]) C dX3_victim_93 2 rfl hz22.symm (by decide) [1, 2, 0, 3, 4] rfl ?_
                    refine x_goto (tgt := 4) C dX3_victim_96 (by decide) ?_
                    refine x_lv (lv' := [(0, .ref (q 0)), (1, .int z.2), (2, .int z22)]) [0, 1, 2] rfl ?_
                    exact ih ((z.2, z22)) (rOk_t hnx hf) (fun z' hz => K0 z' ((run_t hf).trans hz))
            · have hf := hf.trans (if_pos c12)
              have hok := g_ip c12 hok
              refine x_iconst (v := (-1 : Int32)) C dX3_victim_55 (by decide) ?_
              refine x_goto (tgt := 72) C dX3_victim_56 (by decide) ?_
              refine x_istore (lv' := [(0, .ref (q 0)), (1, .int z.1), (2, .int z.2), (3, .int z11), (4, .int (-1 : Int32))]) C dX3_victim_72 (by decide) [1, 2, 3, 4, 0] rfl ?_
              refine x_iload_n C dX3_victim_74 rfl 3 rfl ?_
              refine x_if_lt (tgt := 87) C dX3_victim_75 (by decide) (fun c23 => ?_) (fun c23 => ?_)
              · have hf := hf.trans (if_pos c23)
                have hok := g_ip c23 hok
                refine x_iload_n C dX3_victim_87 rfl 2 rfl ?_
                refine x_goto (tgt := 92) C dX3_victim_88 (by decide) ?_
                refine x_istore_n (lv' := [(0, .ref (q 0)), (1, .int z.2), (2, .int z.2), (3, .int z11), (4, .int (-1 : Int32))]) C dX3_victim_92 rfl (by decide) [1, 0, 2, 3, 4] rfl ?_
                obtain ⟨z24, hz24⟩ : ∃ y9 : Int32, y9 = (z.2 + (1 : Int32)) := ⟨_, rfl⟩
                have hf := hf.trans (g_let_eq hz24)
                have hok := g_let_p hz24 hok
                refine x_iinc (v := z24) (lv' := [(0, .ref (q 0)), (1, .int z.2), (2, .int z24), (3, .int z11), (4, .int (-1 : Int32))]) C dX3_victim_93 2 rfl hz24.symm (by decide) [1, 2, 0, 3, 4] rfl ?_
                refine x_goto (tgt := 4) C dX3_victim_96 (by decide) ?_
                refine x_lv (lv' := [(0, .ref (q 0)), (1, .int z.2), (2, .int z24)]) [0, 1, 2] rfl ?_
                exact ih ((z.2, z24)) (rOk_t hnx hf) (fun z' hz => K0 z' ((run_t hf).trans hz))
              · have hf := hf.trans (if_neg c23)
                have hok := g_in c23 hok
                refine x_iload_n C dX3_victim_78 rfl 3 rfl ?_
                refine x_if_ne (tgt := 91) C dX3_victim_79 (by decide) (fun c25 => ?_) (fun c25 => ?_)
                · have hf := hf.trans (if_neg c25)
                  have hok := g_in c25 hok
                  refine x_iload_n C dX3_victim_91 rfl 1 rfl ?_
                  refine x_istore_n (lv' := [(0, .ref (q 0)), (1, .int z.1), (2, .int z.2), (3, .int z11), (4, .int (-1 : Int32))]) C dX3_victim_92 rfl (by decide) [1, 0, 2, 3, 4] rfl ?_
                  obtain ⟨z26, hz26⟩ : ∃ y9 : Int32, y9 = (z.2 + (1 : Int32)) := ⟨_, rfl⟩
                  have hf := hf.trans (g_let_eq hz26)
                  have hok := g_let_p hz26 hok
                  refine x_iinc (v := z26) (lv' := [(0, .ref (q 0)), (1, .int z.1), (2, .int z26), (3, .int z11), (4, .int (-1 : Int32))]) C dX3_victim_93 2 rfl hz26.symm (by decide) [1, 2, 0, 3, 4] rfl ?_
                  refine x_goto (tgt := 4) C dX3_victim_96 (by decide) ?_
                  refine x_lv (lv' := [(0, .ref (q 0)), (1, .int z.1), (2, .int z26)]) [0, 1, 2] rfl ?_
                  exact ih ((z.1, z26)) (rOk_t hnx hf) (fun z' hz => K0 z' ((run_t hf).trans hz))
                · have hf := hf.trans (if_pos c25)
                  have hok := g_ip c25 hok
                  refine x_iload C dX3_victim_82 4 rfl ?_
                  refine x_if_ge (tgt := 91) C dX3_victim_84 (by decide) (fun c9 => absurd c9 (by decide)) (fun _ => ?_)
                  refine x_iload_n C dX3_victim_87 rfl 2 rfl ?_
                  refine x_goto (tgt := 92) C dX3_victim_88 (by decide) ?_
                  refine x_istore_n (lv' := [(0, .ref (q 0)), (1, .int z.2), (2, .int z.2), (3, .int z11), (4, .int (-1 : Int32))]) C dX3_victim_92 rfl (by decide) [1, 0, 2, 3, 4] rfl ?_
                  obtain ⟨z27, hz27⟩ : ∃ y9 : Int32, y9 = (z.2 + (1 : Int32)) := ⟨_, rfl⟩
                  have hf := hf.trans (g_let_eq hz27)
                  have hok := g_let_p hz27 hok
                  refine x_iinc (v := z27) (lv' := [(0, .ref (q 0)), (1, .int z.2), (2, .int z27), (3, .int z11), (4, .int (-1 : Int32))]) C dX3_victim_93 2 rfl hz27.symm (by decide) [1, 2, 0, 3, 4] rfl ?_
                  refine x_goto (tgt := 4) C dX3_victim_96 (by decide) ?_
                  refine x_lv (lv' := [(0, .ref (q 0)), (1, .int z.2), (2, .int z27)]) [0, 1, 2] rfl ?_
                  exact ih ((z.2, z27)) (rOk_t hnx hf) (fun z' hz => K0 z' ((run_t hf).trans hz))
          · have hf := hf.trans (if_pos c8)
            have hok := g_ip c8 hok
            refine x_iconst (v := (-1 : Int32)) C dX3_victim_34 (by decide) ?_
            refine x_goto (tgt := 49) C dX3_victim_35 (by decide) ?_
            refine x_istore_n (lv' := [(0, .ref (q 0)), (1, .int z.1), (2, .int z.2), (3, .int (-1 : Int32))]) C dX3_victim_49 rfl (by decide) [1, 2, 3, 0] rfl ?_
            refine x_iload_n C dX3_victim_50 rfl 1 rfl ?_
            refine x_iconst (v := (-1 : Int32)) C dX3_victim_51 (by decide) ?_
            refine x_icmp_ne (tgt := 59) C dX3_victim_52 (by decide) (fun c28 => ?_) (fun c28 => ?_)
            · have hf := hf.trans (if_neg c28)
              have hok := g_in c28 hok
              refine x_aload_n C dX3_victim_59 rfl 0 rfl ?_
              refine x_iload_n C dX3_victim_60 rfl 2 rfl ?_
              refine x_iconst (v := (0 : Int32)) C dX3_victim_61 (by decide) ?_
              have s29 := And.left hok
              have hok := And.right hok
              refine x_callSi (n := 3) C hq gFr_same (c_r_slots l G q m h z.2 (0 : Int32) s29) (va_cwS 3 C.2.2.2.2.2.1 gX3_victim_X3_slots rfl rfl rfl (by decide +kernel) ⟨Nat.le_of_ble_eq_true rfl, Nat.le_of_ble_eq_true rfl⟩) rfl rfl (Nat.le_of_ble_eq_true rfl) dX3_victim_62 (Nat.zero_le _) (Nat.zero_le _) ?_
              refine x_aload_n C dX3_victim_65 rfl 0 rfl ?_
              refine x_iload_n C dX3_victim_66 rfl 1 rfl ?_
              refine x_iconst (v := (0 : Int32)) C dX3_victim_67 (by decide) ?_
              have s30 := And.left hok
              have hok := And.right hok
              refine x_callSi (n := 3) C hq gFr_same (c_r_slots l G q m h z.1 (0 : Int32) s30) (va_cwS 3 C.2.2.2.2.2.1 gX3_victim_X3_slots rfl rfl rfl (by decide +kernel) ⟨Nat.le_of_ble_eq_true rfl, Nat.le_of_ble_eq_true rfl⟩) rfl rfl (Nat.le_of_ble_eq_true rfl) dX3_victim_68 (Nat.zero_le _) (Nat.zero_le _) ?_
              refine x_isub C dX3_victim_71 ?_
              obtain ⟨z31, hz31⟩ : ∃ y9 : Int32, y9 = ((f_r_slots m z.2 (0 : Int32)) - (f_r_slots m z.1 (0 : Int32))) := ⟨_, rfl⟩
              have hf := hf.trans (g_let_eq hz31)
              have hok := g_let_p hz31 hok
              refine x_topi hz31 ?_
              refine x_istore (lv' := [(0, .ref (q 0)), (1, .int z.1), (2, .int z.2), (3, .int (-1 : Int32)), (4, .int z31)]) C dX3_victim_72 (by decide) [1, 2, 3, 4, 0] rfl ?_
              refine x_iload_n C dX3_victim_74 rfl 3 rfl ?_
              refine x_if_lt (tgt := 87) C dX3_victim_75 (by decide) (fun _ => ?_) (fun c9 => absurd c9 (by decide))
              refine x_iload_n C dX3_victim_87 rfl 2 rfl ?_
              refine x_goto (tgt := 92) C dX3_victim_88 (by decide) ?_
              refine x_istore_n (lv' := [(0, .ref (q 0)), (1, .int z.2), (2, .int z.2), (3, .int (-1 : Int32)), (4, .int z31)]) C dX3_victim_92 rfl (by decide) [1, 0, 2, 3, 4] rfl ?_
              obtain ⟨z32, hz32⟩ : ∃ y9 : Int32, y9 = (z.2 + (1 : Int32)) := ⟨_, rfl⟩
              have hf := hf.trans (g_let_eq hz32)
              have hok := g_let_p hz32 hok
              refine x_iinc (v := z32) (lv' := [(0, .ref (q 0)), (1, .int z.2), (2, .int z32), (3, .int (-1 : Int32)), (4, .int z31)]) C dX3_victim_93 2 rfl hz32.symm (by decide) [1, 2, 0, 3, 4] rfl ?_
              refine x_goto (tgt := 4) C dX3_victim_96 (by decide) ?_
              refine x_lv (lv' := [(0, .ref (q 0)), (1, .int z.2), (2, .int z32)]) [0, 1, 2] rfl ?_
              exact ih ((z.2, z32)) (rOk_t hnx hf) (fun z' hz => K0 z' ((run_t hf).trans hz))
            · have hf := hf.trans (if_pos c28)
              have hok := g_ip c28 hok
              refine x_iconst (v := (-1 : Int32)) C dX3_victim_55 (by decide) ?_
              refine x_goto (tgt := 72) C dX3_victim_56 (by decide) ?_
              refine x_istore (lv' := [(0, .ref (q 0)), (1, .int z.1), (2, .int z.2), (3, .int (-1 : Int32)), (4, .int (-1 : Int32))]) C dX3_victim_72 (by decide) [1, 2, 3, 4, 0] rfl ?_
              refine x_iload_n C dX3_victim_74 rfl 3 rfl ?_
              refine x_if_lt (tgt := 87) C dX3_victim_75 (by decide) (fun _ => ?_) (fun c9 => absurd c9 (by decide))
              refine x_iload_n C dX3_victim_87 rfl 2 rfl ?_
              refine x_goto (tgt := 92) C dX3_victim_88 (by decide) ?_
              refine x_istore_n (lv' := [(0, .ref (q 0)), (1, .int z.2), (2, .int z.2), (3, .int (-1 : Int32)), (4, .int (-1 : Int32))]) C dX3_victim_92 rfl (by decide) [1, 0, 2, 3, 4] rfl ?_
              obtain ⟨z33, hz33⟩ : ∃ y9 : Int32, y9 = (z.2 + (1 : Int32)) := ⟨_, rfl⟩
              have hf := hf.trans (g_let_eq hz33)
              have hok := g_let_p hz33 hok
              refine x_iinc (v := z33) (lv' := [(0, .ref (q 0)), (1, .int z.2), (2, .int z33), (3, .int (-1 : Int32)), (4, .int (-1 : Int32))]) C dX3_victim_93 2 rfl hz33.symm (by decide) [1, 2, 0, 3, 4] rfl ?_
              refine x_goto (tgt := 4) C dX3_victim_96 (by decide) ?_
              refine x_lv (lv' := [(0, .ref (q 0)), (1, .int z.2), (2, .int z33)]) [0, 1, 2] rfl ?_
              exact ih ((z.2, z33)) (rOk_t hnx hf) (fun z' hz => K0 z' ((run_t hf).trans hz))
noncomputable def f_r_victim (m : gM) : Int32 := g_let (run (L_r_victim_4 m) 400 (((-1 : Int32), (0 : Int32)))) (fun z2 : Int32 × Int32 => z2.1)
noncomputable def o_r_victim (m : gM) : Prop := (rOk (L_r_victim_4 m) (K_r_victim_4 m) 400 (((-1 : Int32), (0 : Int32)))) ∧ (g_let (run (L_r_victim_4 m) 400 (((-1 : Int32), (0 : Int32)))) (fun z2 : Int32 × Int32 => True))
set_option maxRecDepth 100000 in
set_option maxHeartbeats 4000000 in
theorem c_r_victim (l : Launch) (G : gG) (q : Nat → Nat) (m : gM) (h : gN) (hok : o_r_victim m) : gMi l yX3_victim wsX3_victim rm_r_victim G shr q m h [.ref (q 0)] m h (f_r_victim m) := by
  intro sz
  refine g_met (cc := cX3_victim) (maxL := 5) (ret := (some .int)) (own := RX3) (Qc := fun sz => gQi G shr q m h sz (f_r_victim m)) (by decide) rfl rfl (Nat.le_of_ble_eq_true rfl) (fun p e s m9 below meth c C hq hr => ?_)
  refine x_lv (lv' := [(0, .ref (q 0))]) [0] rfl ?_
  have hf := f_r_victim.eq_1 m
  have hok := Eq.mp (o_r_victim.eq_1 m) hok
  refine x_iconst (v := (-1 : Int32)) C dX3_victim_0 (by decide) ?_
  refine x_istore_n (lv' := [(0, .ref (q 0)), (1, .int (-1 : Int32))]) C dX3_victim_1 rfl (by decide) [1, 0] rfl ?_
  refine x_iconst (v := (0 : Int32)) C dX3_victim_2 (by decide) ?_
  refine x_istore_n (lv' := [(0, .ref (q 0)), (1, .int (-1 : Int32)), (2, .int (0 : Int32))]) C dX3_victim_3 rfl (by decide) [1, 2, 0] rfl ?_
  have s1 := And.left hok
  have hok := And.right hok
  refine lp_r_victim_4 C hq m h 400 (((-1 : Int32), (0 : Int32))) s1 (fun z2 hz2 => ?_)
  have hf := hf.trans (g_let_eq hz2.symm)
  have hok := g_let_p hz2.symm hok
  refine x_iload_n C dX3_victim_99 rfl 1 rfl ?_
  exact g_iret C hr rfl dX3_victim_100 hf.symm rfl rfl
abbrev rm_r_frees : Room := { frames := 4, cells := 0, slots := 0, locals := 92 }
noncomputable def L_r_frees_7 (x1 : Int32) (z : Int32 × Int32 × gM) : Bool × (Int32 × Int32 × gM) := (if x1 ≤ (f_r_inState z.2.2 (0 : Int32)) then (false, (z.1, z.2.1, z.2.2)) else (if z.2.1 = (-1 : Int32) then (false, (z.1, z.2.1, z.2.2)) else g_let (f_r_collects z.2.2 z.2.1) (fun z5 : Int32 × gM => g_let ((z.1 + z5.1)) (fun z6 : Int32 => g_let ((f_r_victim z5.2)) (fun z8 : Int32 => (true, (z6, z8, z5.2)))))))
noncomputable def K_r_frees_7 (x1 : Int32) (z : Int32 × Int32 × gM) : Prop := (o_r_inState z.2.2 (0 : Int32)) ∧ ((if x1 ≤ (f_r_inState z.2.2 (0 : Int32)) then True else (if z.2.1 = (-1 : Int32) then True else (o_r_collects z.2.2 z.2.1) ∧ (g_let (f_r_collects z.2.2 z.2.1) (fun z5 : Int32 × gM => g_let ((z.1 + z5.1)) (fun z6 : Int32 => (o_r_victim z5.2) ∧ (g_let ((f_r_victim z5.2)) (fun z8 : Int32 => True))))))))
set_option maxRecDepth 100000 in
set_option maxHeartbeats 4000000 in
theorem lp_r_frees_7 {p : Program} {l : Launch} {e : Env} {s : State} {m9 : MethodId} {args : Array Value} {below : List Frame} {meth : Method} {c : Code} {G : gG} {A : Nat → Prop} {Q : State → Prop} {q : Nat → Nat} (C : xC p s m9 args meth c G A 4 cX3_frees RX3 wsX3_frees) (hq : gD A q shr.length) (h : gN) (x1 : Int32) : ∀ (n : Nat) (z : Int32 × Int32 × gM), rOk (L_r_frees_7 x1) (K_r_frees_7 x1) n z → (∀ z' : Int32 × Int32 × gM, run (L_r_frees_7 x1) n z = z' → xJ p l e rm_r_frees s m9 args below meth c G A 4 Q 0 0 shr q z'.2.2 h [(0, .ref (q 0)), (1, .int x1), (2, .int z'.1), (3, .int z'.2.1)] [] 37) → xJ p l e rm_r_frees s m9 args below meth c G A 4 Q 0 0 shr q z.2.2 h [(0, .ref (q 0)), (1, .int x1), (2, .int z.1), (3, .int z.2.1)] [] 7 := by
  intro n
  induction n with
  | zero =>
    intro z hok _
    exact rOk_0 hok
  | succ n ih =>
    intro z hok K0
    have hnx := rOk_2 hok
    have hok := rOk_1 hok
    have hf := L_r_frees_7.eq_1 x1 z
    have hok := Eq.mp (K_r_frees_7.eq_1 x1 z) hok
    refine x_aload_n C dX3_frees_7 rfl 0 rfl ?_
    refine x_iconst (v := (0 : Int32)) C dX3_frees_8 (by decide) ?_
    have s1 := And.left hok
    have hok := And.right hok
    refine x_callSi (n := 2) C hq gFr_same (c_r_inState l G q z.2.2 h (0 : Int32) s1) (va_cwS 2 C.2.2.2.2.2.1 gX3_frees_X3_inState rfl rfl rfl (by decide +kernel) ⟨Nat.le_of_ble_eq_true rfl, Nat.le_of_ble_eq_true rfl⟩) rfl rfl (Nat.le_of_ble_eq_true rfl) dX3_frees_9 (Nat.zero_le _) (Nat.zero_le _) ?_
    refine x_iload_n C dX3_frees_12 rfl 1 rfl ?_
    refine x_icmp_ge (tgt := 37) C dX3_frees_13 (by decide) (fun c2 => ?_) (fun c2 => ?_)
    · have hf := hf.trans (if_pos c2)
      have hok := g_ip c2 hok
      exact K0 ((z.1, z.2.1, z.2.2)) (run_f hf)
    · have hf := hf.trans (if_neg c2)
      have hok := g_in c2 hok
      refine x_iload_n C dX3_frees_16 rfl 3 rfl ?_
      refine x_iconst (v := (-1 : Int32)) C dX3_frees_17 (by decide) ?_
      refine x_icmp_eq (tgt := 37) C dX3_frees_18 (by decide) (fun c3 => ?_) (fun c3 => ?_)
      · have hf := hf.trans (if_pos c3)
        have hok := g_ip c3 hok
        exact K0 ((z.1, z.2.1, z.2.2)) (run_f hf)
      · have hf := hf.trans (if_neg c3)
        have hok := g_in c3 hok
        refine x_iload_n C dX3_frees_21 rfl 2 rfl ?_
        refine x_aload_n C dX3_frees_22 rfl 0 rfl ?_
        refine x_iload_n C dX3_frees_23 rfl 3 rfl ?_
        have s4 := And.left hok
        have hok := And.right hok
        obtain ⟨z5, hz5⟩ : ∃ y9 : Int32 × gM, y9 = f_r_collects z.2.2 z.2.1 := ⟨_, rfl⟩
        have hf := hf.trans (g_let_eq hz5)
        have hok := g_let_p hz5 hok
        have hmz5 : gMi l yX3_collects wsX3_collects rm_r_collects G shr q z.2.2 h [.ref (q 0), .int z.2.1] z5.2 h z5.1 := by rw [hz5]; exact c_r_collects l G q z.2.2 h z.2.1 s4
        refine x_callSi (n := 2) C hq gFr_same (hmz5) (va_cwS 2 C.2.2.2.2.2.1 gX3_frees_X3_collects rfl rfl rfl (by decide +kernel) ⟨Nat.le_of_ble_eq_true rfl, Nat.le_of_ble_eq_true rfl⟩) rfl rfl (Nat.le_of_ble_eq_true rfl) dX3_frees_24 (Nat.zero_le _) (Nat.zero_le _) ?_
        refine x_iadd C dX3_frees_27 ?_
        obtain ⟨z6, hz6⟩ : ∃ y9 : Int32, y9 = (z.1 + z5.1) := ⟨_, rfl⟩
        have hf := hf.trans (g_let_eq hz6)
        have hok := g_let_p hz6 hok
        refine x_topi hz6 ?_
        refine x_istore_n (lv' := [(0, .ref (q 0)), (1, .int x1), (2, .int z6), (3, .int z.2.1)]) C dX3_frees_28 rfl (by decide) [1, 2, 0, 3] rfl ?_
        refine x_aload_n C dX3_frees_29 rfl 0 rfl ?_
        have s7 := And.left hok
        have hok := And.right hok
        refine x_callSi (n := 1) C hq gFr_same (c_r_victim l G q z5.2 h s7) (va_cwS 1 C.2.2.2.2.2.1 gX3_frees_X3_victim rfl rfl rfl (by decide +kernel) ⟨Nat.le_of_ble_eq_true rfl, Nat.le_of_ble_eq_true rfl⟩) rfl rfl (Nat.le_of_ble_eq_true rfl) dX3_frees_30 (Nat.zero_le _) (Nat.zero_le _) ?_
        obtain ⟨z8, hz8⟩ : ∃ y9 : Int32, y9 = (f_r_victim z5.2) := ⟨_, rfl⟩
        have hf := hf.trans (g_let_eq hz8)
        have hok := g_let_p hz8 hok
        refine x_topi hz8 ?_
        refine x_istore_n (lv' := [(0, .ref (q 0)), (1, .int x1), (2, .int z6), (3, .int z8)]) C dX3_frees_33 rfl (by decide) [1, 2, 3, 0] rfl ?_
        refine x_goto (tgt := 7) C dX3_frees_34 (by decide) ?_
        exact ih ((z6, z8, z5.2)) (rOk_t hnx hf) (fun z' hz => K0 z' ((run_t hf).trans hz))
noncomputable def f_r_frees (m : gM) (a1 : Int32) : Int32 × gM := g_let ((f_r_victim m)) (fun z2 : Int32 => g_let (run (L_r_frees_7 a1) 400 (((0 : Int32), z2, m))) (fun z4 : Int32 × Int32 × gM => (z4.1, z4.2.2)))
noncomputable def o_r_frees (m : gM) (a1 : Int32) : Prop := (o_r_victim m) ∧ (g_let ((f_r_victim m)) (fun z2 : Int32 => (rOk (L_r_frees_7 a1) (K_r_frees_7 a1) 400 (((0 : Int32), z2, m))) ∧ (g_let (run (L_r_frees_7 a1) 400 (((0 : Int32), z2, m))) (fun z4 : Int32 × Int32 × gM => True))))
set_option maxRecDepth 100000 in
set_option maxHeartbeats 4000000 in
theorem c_r_frees (l : Launch) (G : gG) (q : Nat → Nat) (m : gM) (h : gN) (a1 : Int32) (hok : o_r_frees m a1) : gMi l yX3_frees wsX3_frees rm_r_frees G shr q m h [.ref (q 0), .int a1] ((f_r_frees m a1).2) h ((f_r_frees m a1).1) := by
  intro sz
  refine g_met (cc := cX3_frees) (maxL := 4) (ret := (some .int)) (own := RX3) (Qc := fun sz => gQi G shr q ((f_r_frees m a1).2) h sz ((f_r_frees m a1).1)) (by decide) rfl rfl (Nat.le_of_ble_eq_true rfl) (fun p e s m9 below meth c C hq hr => ?_)
  refine x_lv (lv' := [(0, .ref (q 0)), (1, .int a1)]) [0, 1] rfl ?_
  have hf := f_r_frees.eq_1 m a1
  have hok := Eq.mp (o_r_frees.eq_1 m a1) hok
  refine x_iconst (v := (0 : Int32)) C dX3_frees_0 (by decide) ?_
  refine x_istore_n (lv' := [(0, .ref (q 0)), (1, .int a1), (2, .int (0 : Int32))]) C dX3_frees_1 rfl (by decide) [1, 2, 0] rfl ?_
  refine x_aload_n C dX3_frees_2 rfl 0 rfl ?_
  have s1 := And.left hok
  have hok := And.right hok
  refine x_callSi (n := 1) C hq gFr_same (c_r_victim l G q m h s1) (va_cwS 1 C.2.2.2.2.2.1 gX3_frees_X3_victim rfl rfl rfl (by decide +kernel) ⟨Nat.le_of_ble_eq_true rfl, Nat.le_of_ble_eq_true rfl⟩) rfl rfl (Nat.le_of_ble_eq_true rfl) dX3_frees_3 (Nat.zero_le _) (Nat.zero_le _) ?_
  obtain ⟨z2, hz2⟩ : ∃ y9 : Int32, y9 = (f_r_victim m) := ⟨_, rfl⟩
  have hf := hf.trans (g_let_eq hz2)
  have hok := g_let_p hz2 hok
  refine x_topi hz2 ?_
  refine x_istore_n (lv' := [(0, .ref (q 0)), (1, .int a1), (2, .int (0 : Int32)), (3, .int z2)]) C dX3_frees_6 rfl (by decide) [1, 2, 3, 0] rfl ?_
  have s3 := And.left hok
  have hok := And.right hok
  refine lp_r_frees_7 C hq h a1 400 (((0 : Int32), z2, m)) s3 (fun z4 hz4 => ?_)
  have hf := hf.trans (g_let_eq hz4.symm)
  have hok := g_let_p hz4.symm hok
  refine x_iload_n C dX3_frees_37 rfl 2 rfl ?_
  exact g_iret C hr rfl dX3_frees_38 (congrArg (fun z => z.1) hf).symm (congrArg (fun z => z.2) hf).symm rfl
abbrev rm_r_writes : Room := { frames := 5, cells := 0, slots := 0, locals := 115 }
noncomputable def f_r_writes (m : gM) (a1 : Int32) (a2 : Int32) : Int32 × gM := g_let (f_r_frees m (m 0 (359 : Int32).toNatClampNeg)) (fun z2 : Int32 × gM => g_let (g_set z2.2 0 (upd (z2.2 0) (((144 : Int32) + ((5 : Int32) * a1)) + (1 : Int32)).toNatClampNeg a2)) (fun z4 : gM => g_let (f_r_programs z4 a1 a2) (fun z6 : gM => g_let (g_set z6 0 (upd (z6 0) (((144 : Int32) + ((5 : Int32) * a1)) + (2 : Int32)).toNatClampNeg ((z6 0 (((144 : Int32) + ((5 : Int32) * a1)) + (2 : Int32)).toNatClampNeg) + (1 : Int32)))) (fun z9 : gM => g_let (g_set z9 0 (upd (z9 0) (((144 : Int32) + ((5 : Int32) * a1)) + (4 : Int32)).toNatClampNeg (0 : Int32))) (fun z11 : gM => g_let (g_set z11 0 (upd (z11 0) (360 : Int32).toNatClampNeg ((z11 0 (360 : Int32).toNatClampNeg) + (1 : Int32)))) (fun z12 : gM => (z2.1, z12)))))))
noncomputable def o_r_writes (m : gM) (a1 : Int32) (a2 : Int32) : Prop := (o_r_frees m (m 0 (359 : Int32).toNatClampNeg)) ∧ (g_let (f_r_frees m (m 0 (359 : Int32).toNatClampNeg)) (fun z2 : Int32 × gM => (vp_in (((144 : Int32) + ((5 : Int32) * a1)) + (1 : Int32)) 364) ∧ (g_let (g_set z2.2 0 (upd (z2.2 0) (((144 : Int32) + ((5 : Int32) * a1)) + (1 : Int32)).toNatClampNeg a2)) (fun z4 : gM => (o_r_programs z4 a1 a2) ∧ (g_let (f_r_programs z4 a1 a2) (fun z6 : gM => (vp_in (((144 : Int32) + ((5 : Int32) * a1)) + (2 : Int32)) 364) ∧ ((vp_in (((144 : Int32) + ((5 : Int32) * a1)) + (2 : Int32)) 364) ∧ (g_let (g_set z6 0 (upd (z6 0) (((144 : Int32) + ((5 : Int32) * a1)) + (2 : Int32)).toNatClampNeg ((z6 0 (((144 : Int32) + ((5 : Int32) * a1)) + (2 : Int32)).toNatClampNeg) + (1 : Int32)))) (fun z9 : gM => (vp_in (((144 : Int32) + ((5 : Int32) * a1)) + (4 : Int32)) 364) ∧ (g_let (g_set z9 0 (upd (z9 0) (((144 : Int32) + ((5 : Int32) * a1)) + (4 : Int32)).toNatClampNeg (0 : Int32))) (fun z11 : gM => g_let (g_set z11 0 (upd (z11 0) (360 : Int32).toNatClampNeg ((z11 0 (360 : Int32).toNatClampNeg) + (1 : Int32)))) (fun z12 : gM => True))))))))))))
set_option maxRecDepth 100000 in
set_option maxHeartbeats 4000000 in
theorem c_r_writes (l : Launch) (G : gG) (q : Nat → Nat) (m : gM) (h : gN) (a1 : Int32) (a2 : Int32) (hok : o_r_writes m a1 a2) : gMi l yX3_writes wsX3_writes rm_r_writes G shr q m h [.ref (q 0), .int a1, .int a2] ((f_r_writes m a1 a2).2) h ((f_r_writes m a1 a2).1) := by
  intro sz
  refine g_met (cc := cX3_writes) (maxL := 4) (ret := (some .int)) (own := RX3) (Qc := fun sz => gQi G shr q ((f_r_writes m a1 a2).2) h sz ((f_r_writes m a1 a2).1)) (by decide) rfl rfl (Nat.le_of_ble_eq_true rfl) (fun p e s m9 below meth c C hq hr => ?_)
  refine x_lv (lv' := [(0, .ref (q 0)), (1, .int a1), (2, .int a2)]) [0, 1, 2] rfl ?_
  have hf := f_r_writes.eq_1 m a1 a2
  have hok := Eq.mp (o_r_writes.eq_1 m a1 a2) hok
  refine x_aload_n C dX3_writes_0 rfl 0 rfl ?_
  refine x_aload_n C dX3_writes_1 rfl 0 rfl ?_
  refine x_sipush (v := (359 : Int32)) C dX3_writes_2 (by decide) ?_
  refine x_iald (n := 364) (v := (m 0 (359 : Int32).toNatClampNeg)) C 0 rfl (by unfold vp_in; decide) rfl dX3_writes_5 ?_
  have s1 := And.left hok
  have hok := And.right hok
  obtain ⟨z2, hz2⟩ : ∃ y9 : Int32 × gM, y9 = f_r_frees m (m 0 (359 : Int32).toNatClampNeg) := ⟨_, rfl⟩
  have hf := hf.trans (g_let_eq hz2)
  have hok := g_let_p hz2 hok
  have hmz2 : gMi l yX3_frees wsX3_frees rm_r_frees G shr q m h [.ref (q 0), .int (m 0 (359 : Int32).toNatClampNeg)] z2.2 h z2.1 := by rw [hz2]; exact c_r_frees l G q m h (m 0 (359 : Int32).toNatClampNeg) s1
  refine x_callSi (n := 2) C hq gFr_same (hmz2) (va_cwS 2 C.2.2.2.2.2.1 gX3_writes_X3_frees rfl rfl rfl (by decide +kernel) ⟨Nat.le_of_ble_eq_true rfl, Nat.le_of_ble_eq_true rfl⟩) rfl rfl (Nat.le_of_ble_eq_true rfl) dX3_writes_6 (Nat.zero_le _) (Nat.zero_le _) ?_
  refine x_istore_n (lv' := [(0, .ref (q 0)), (1, .int a1), (2, .int a2), (3, .int z2.1)]) C dX3_writes_9 rfl (by decide) [1, 2, 3, 0] rfl ?_
  refine x_aload_n C dX3_writes_10 rfl 0 rfl ?_
  refine x_sipush (v := (144 : Int32)) C dX3_writes_11 (by decide) ?_
  refine x_iconst (v := (5 : Int32)) C dX3_writes_14 (by decide) ?_
  refine x_iload_n C dX3_writes_15 rfl 1 rfl ?_
  refine x_imul C dX3_writes_16 ?_
  refine x_iadd C dX3_writes_17 ?_
  refine x_iconst (v := (1 : Int32)) C dX3_writes_18 (by decide) ?_
  refine x_iadd C dX3_writes_19 ?_
  refine x_iload_n C dX3_writes_20 rfl 2 rfl ?_
  have s3 := And.left hok
  have hok := And.right hok
  obtain ⟨z4, hz4⟩ : ∃ y9 : gM, y9 = g_set z2.2 0 (upd (z2.2 0) (((144 : Int32) + ((5 : Int32) * a1)) + (1 : Int32)).toNatClampNeg a2) := ⟨_, rfl⟩
  have hf := hf.trans (g_let_eq hz4)
  have hok := g_let_p hz4 hok
  refine x_iast (μ' := z4) (n := 364) C hq 0 rfl s3 hz4 dX3_writes_21 ?_
  refine x_aload_n C dX3_writes_22 rfl 0 rfl ?_
  refine x_iload_n C dX3_writes_23 rfl 1 rfl ?_
  refine x_iload_n C dX3_writes_24 rfl 2 rfl ?_
  have s5 := And.left hok
  have hok := And.right hok
  obtain ⟨z6, hz6⟩ : ∃ y9 : gM, y9 = f_r_programs z4 a1 a2 := ⟨_, rfl⟩
  have hf := hf.trans (g_let_eq hz6)
  have hok := g_let_p hz6 hok
  have hmz6 : gMv l yX3_programs wsX3_programs rm_r_programs G shr q z4 h [.ref (q 0), .int a1, .int a2] z6 h := by rw [hz6]; exact c_r_programs l G q z4 h a1 a2 s5
  refine x_callSv (n := 3) C hq gFr_same (hmz6) (va_cwS 3 C.2.2.2.2.2.1 gX3_writes_X3_programs rfl rfl rfl (by decide +kernel) ⟨Nat.le_of_ble_eq_true rfl, Nat.le_of_ble_eq_true rfl⟩) rfl rfl (Nat.le_of_ble_eq_true rfl) dX3_writes_25 (Nat.zero_le _) (Nat.zero_le _) ?_
  refine x_aload_n C dX3_writes_28 rfl 0 rfl ?_
  refine x_sipush (v := (144 : Int32)) C dX3_writes_29 (by decide) ?_
  refine x_iconst (v := (5 : Int32)) C dX3_writes_32 (by decide) ?_
  refine x_iload_n C dX3_writes_33 rfl 1 rfl ?_
  refine x_imul C dX3_writes_34 ?_
  refine x_iadd C dX3_writes_35 ?_
  refine x_iconst (v := (2 : Int32)) C dX3_writes_36 (by decide) ?_
  refine x_iadd C dX3_writes_37 ?_
  refine x_dup2 C dX3_writes_38 rfl rfl ?_
  have s7 := And.left hok
  have hok := And.right hok
  refine x_iald (n := 364) (v := (z6 0 (((144 : Int32) + ((5 : Int32) * a1)) + (2 : Int32)).toNatClampNeg)) C 0 rfl s7 rfl dX3_writes_39 ?_
  refine x_iconst (v := (1 : Int32)) C dX3_writes_40 (by decide) ?_
  refine x_iadd C dX3_writes_41 ?_
  have s8 := And.left hok
  have hok := And.right hok
  obtain ⟨z9, hz9⟩ : ∃ y9 : gM, y9 = g_set z6 0 (upd (z6 0) (((144 : Int32) + ((5 : Int32) * a1)) + (2 : Int32)).toNatClampNeg ((z6 0 (((144 : Int32) + ((5 : Int32) * a1)) + (2 : Int32)).toNatClampNeg) + (1 : Int32))) := ⟨_, rfl⟩
  have hf := hf.trans (g_let_eq hz9)
  have hok := g_let_p hz9 hok
  refine x_iast (μ' := z9) (n := 364) C hq 0 rfl s8 hz9 dX3_writes_42 ?_
  refine x_aload_n C dX3_writes_43 rfl 0 rfl ?_
  refine x_sipush (v := (144 : Int32)) C dX3_writes_44 (by decide) ?_
  refine x_iconst (v := (5 : Int32)) C dX3_writes_47 (by decide) ?_
  refine x_iload_n C dX3_writes_48 rfl 1 rfl ?_
  refine x_imul C dX3_writes_49 ?_
  refine x_iadd C dX3_writes_50 ?_
  refine x_iconst (v := (4 : Int32)) C dX3_writes_51 (by decide) ?_
  refine x_iadd C dX3_writes_52 ?_
  refine x_iconst (v := (0 : Int32)) C dX3_writes_53 (by decide) ?_
  have s10 := And.left hok
  have hok := And.right hok
  obtain ⟨z11, hz11⟩ : ∃ y9 : gM, y9 = g_set z9 0 (upd (z9 0) (((144 : Int32) + ((5 : Int32) * a1)) + (4 : Int32)).toNatClampNeg (0 : Int32)) := ⟨_, rfl⟩
  have hf := hf.trans (g_let_eq hz11)
  have hok := g_let_p hz11 hok
  refine x_iast (μ' := z11) (n := 364) C hq 0 rfl s10 hz11 dX3_writes_54 ?_
  refine x_aload_n C dX3_writes_55 rfl 0 rfl ?_
  refine x_sipush (v := (360 : Int32)) C dX3_writes_56 (by decide) ?_
  refine x_dup2 C dX3_writes_59 rfl rfl ?_
  refine x_iald (n := 364) (v := (z11 0 (360 : Int32).toNatClampNeg)) C 0 rfl (by unfold vp_in; decide) rfl dX3_writes_60 ?_
  refine x_iconst (v := (1 : Int32)) C dX3_writes_61 (by decide) ?_
  refine x_iadd C dX3_writes_62 ?_
  obtain ⟨z12, hz12⟩ : ∃ y9 : gM, y9 = g_set z11 0 (upd (z11 0) (360 : Int32).toNatClampNeg ((z11 0 (360 : Int32).toNatClampNeg) + (1 : Int32))) := ⟨_, rfl⟩
  have hf := hf.trans (g_let_eq hz12)
  have hok := g_let_p hz12 hok
  refine x_iast (μ' := z12) (n := 364) C hq 0 rfl (by unfold vp_in; decide) hz12 dX3_writes_63 ?_
  refine x_iload_n C dX3_writes_64 rfl 3 rfl ?_
  exact g_iret C hr rfl dX3_writes_65 (congrArg (fun z => z.1) hf).symm (congrArg (fun z => z.2) hf).symm rfl
def shl1 : List gC := [.inl 364, .inl 2184]
abbrev rm_r_lays1 : Room := { frames := 0, cells := 0, slots := 0, locals := 0 }
noncomputable def L_r_lays1_3 (x1 : Int32) (x3 : Int32) (z : Int32 × gM) : Bool × (Int32 × gM) := (if (364 : Int32) ≤ z.1 then (false, (z.1, z.2)) else g_let (g_set z.2 1 (upd (z.2 1) (x3 + z.1).toNatClampNeg (z.2 0 (x1 + z.1).toNatClampNeg))) (fun z4 : gM => g_let ((z.1 + (1 : Int32))) (fun z5 : Int32 => (true, (z5, z4)))))
noncomputable def K_r_lays1_3 (x1 : Int32) (x3 : Int32) (z : Int32 × gM) : Prop := (if (364 : Int32) ≤ z.1 then True else (vp_in (x1 + z.1) 364) ∧ ((vp_in (x3 + z.1) 2184) ∧ (g_let (g_set z.2 1 (upd (z.2 1) (x3 + z.1).toNatClampNeg (z.2 0 (x1 + z.1).toNatClampNeg))) (fun z4 : gM => g_let ((z.1 + (1 : Int32))) (fun z5 : Int32 => True)))))
set_option maxRecDepth 100000 in
set_option maxHeartbeats 4000000 in
theorem lp_r_lays1_3 {p : Program} {l : Launch} {e : Env} {s : State} {m9 : MethodId} {args : Array Value} {below : List Frame} {meth : Method} {c : Code} {G : gG} {A : Nat → Prop} {Q : State → Prop} {q : Nat → Nat} (C : xC p s m9 args meth c G A 5 cX3_lays RX3 wsX3_lays) (hq : gD A q shl1.length) (h : gN) (x1 : Int32) (x3 : Int32) : ∀ (n : Nat) (z : Int32 × gM), rOk (L_r_lays1_3 x1 x3) (K_r_lays1_3 x1 x3) n z → (∀ z' : Int32 × gM, run (L_r_lays1_3 x1 x3) n z = z' → xJ p l e rm_r_lays1 s m9 args below meth c G A 5 Q 0 0 shl1 q z'.2 h [(0, .ref (q 0)), (1, .int x1), (2, .ref (q 1)), (3, .int x3), (4, .int z'.1)] [] 29) → xJ p l e rm_r_lays1 s m9 args below meth c G A 5 Q 0 0 shl1 q z.2 h [(0, .ref (q 0)), (1, .int x1), (2, .ref (q 1)), (3, .int x3), (4, .int z.1)] [] 3 := by
  intro n
  induction n with
  | zero =>
    intro z hok _
    exact rOk_0 hok
  | succ n ih =>
    intro z hok K0
    have hnx := rOk_2 hok
    have hok := rOk_1 hok
    have hf := L_r_lays1_3.eq_1 x1 x3 z
    have hok := Eq.mp (K_r_lays1_3.eq_1 x1 x3 z) hok
    refine x_iload C dX3_lays_3 4 rfl ?_
    refine x_sipush (v := (364 : Int32)) C dX3_lays_5 (by decide) ?_
    refine x_icmp_ge (tgt := 29) C dX3_lays_8 (by decide) (fun c1 => ?_) (fun c1 => ?_)
    · have hf := hf.trans (if_pos c1)
      have hok := g_ip c1 hok
      exact K0 ((z.1, z.2)) (run_f hf)
    · have hf := hf.trans (if_neg c1)
      have hok := g_in c1 hok
      refine x_aload_n C dX3_lays_11 rfl 2 rfl ?_
      refine x_iload_n C dX3_lays_12 rfl 3 rfl ?_
      refine x_iload C dX3_lays_13 4 rfl ?_
      refine x_iadd C dX3_lays_15 ?_
      refine x_aload_n C dX3_lays_16 rfl 0 rfl ?_
      refine x_iload_n C dX3_lays_17 rfl 1 rfl ?_
      refine x_iload C dX3_lays_18 4 rfl ?_
      refine x_iadd C dX3_lays_20 ?_
      have s2 := And.left hok
      have hok := And.right hok
      refine x_iald (n := 364) (v := (z.2 0 (x1 + z.1).toNatClampNeg)) C 0 rfl s2 rfl dX3_lays_21 ?_
      have s3 := And.left hok
      have hok := And.right hok
      obtain ⟨z4, hz4⟩ : ∃ y9 : gM, y9 = g_set z.2 1 (upd (z.2 1) (x3 + z.1).toNatClampNeg (z.2 0 (x1 + z.1).toNatClampNeg)) := ⟨_, rfl⟩
      have hf := hf.trans (g_let_eq hz4)
      have hok := g_let_p hz4 hok
      refine x_iast (μ' := z4) (n := 2184) C hq 1 rfl s3 hz4 dX3_lays_22 ?_
      obtain ⟨z5, hz5⟩ : ∃ y9 : Int32, y9 = (z.1 + (1 : Int32)) := ⟨_, rfl⟩
      have hf := hf.trans (g_let_eq hz5)
      have hok := g_let_p hz5 hok
      refine x_iinc (v := z5) (lv' := [(0, .ref (q 0)), (1, .int x1), (2, .ref (q 1)), (3, .int x3), (4, .int z5)]) C dX3_lays_23 4 rfl hz5.symm (by decide) [1, 2, 3, 4, 0] rfl ?_
      refine x_goto (tgt := 3) C dX3_lays_26 (by decide) ?_
      exact ih ((z5, z4)) (rOk_t hnx hf) (fun z' hz => K0 z' ((run_t hf).trans hz))
noncomputable def f_r_lays1 (m : gM) (a1 : Int32) (a2 : Int32) : gM := g_let (run (L_r_lays1_3 a1 a2) 400 (((0 : Int32), m))) (fun z2 : Int32 × gM => z2.2)
noncomputable def o_r_lays1 (m : gM) (a1 : Int32) (a2 : Int32) : Prop := (rOk (L_r_lays1_3 a1 a2) (K_r_lays1_3 a1 a2) 400 (((0 : Int32), m))) ∧ (g_let (run (L_r_lays1_3 a1 a2) 400 (((0 : Int32), m))) (fun z2 : Int32 × gM => True))
set_option maxRecDepth 100000 in
set_option maxHeartbeats 4000000 in
theorem c_r_lays1 (l : Launch) (G : gG) (q : Nat → Nat) (m : gM) (h : gN) (a1 : Int32) (a2 : Int32) (hok : o_r_lays1 m a1 a2) : gMv l yX3_lays wsX3_lays rm_r_lays1 G shl1 q m h [.ref (q 0), .int a1, .ref (q 1), .int a2] (f_r_lays1 m a1 a2) h := by
  intro sz
  refine g_met (cc := cX3_lays) (maxL := 5) (ret := none) (own := RX3) (Qc := fun sz => gQv G shl1 q (f_r_lays1 m a1 a2) h sz) (by decide) rfl rfl (Nat.le_of_ble_eq_true rfl) (fun p e s m9 below meth c C hq hr => ?_)
  refine x_lv (lv' := [(0, .ref (q 0)), (1, .int a1), (2, .ref (q 1)), (3, .int a2)]) [0, 1, 2, 3] rfl ?_
  have hf := f_r_lays1.eq_1 m a1 a2
  have hok := Eq.mp (o_r_lays1.eq_1 m a1 a2) hok
  refine x_iconst (v := (0 : Int32)) C dX3_lays_0 (by decide) ?_
  refine x_istore (lv' := [(0, .ref (q 0)), (1, .int a1), (2, .ref (q 1)), (3, .int a2), (4, .int (0 : Int32))]) C dX3_lays_1 (by decide) [1, 2, 3, 4, 0] rfl ?_
  have s1 := And.left hok
  have hok := And.right hok
  refine lp_r_lays1_3 C hq h a1 a2 400 (((0 : Int32), m)) s1 (fun z2 hz2 => ?_)
  have hf := hf.trans (g_let_eq hz2.symm)
  have hok := g_let_p hz2.symm hok
  exact g_vret C hr dX3_lays_29 hf.symm rfl
def shl2 : List gC := [.inl 2184, .inl 364]
abbrev rm_r_lays2 : Room := { frames := 0, cells := 0, slots := 0, locals := 0 }
noncomputable def L_r_lays2_3 (x1 : Int32) (x3 : Int32) (z : Int32 × gM) : Bool × (Int32 × gM) := (if (364 : Int32) ≤ z.1 then (false, (z.1, z.2)) else g_let (g_set z.2 1 (upd (z.2 1) (x3 + z.1).toNatClampNeg (z.2 0 (x1 + z.1).toNatClampNeg))) (fun z4 : gM => g_let ((z.1 + (1 : Int32))) (fun z5 : Int32 => (true, (z5, z4)))))
noncomputable def K_r_lays2_3 (x1 : Int32) (x3 : Int32) (z : Int32 × gM) : Prop := (if (364 : Int32) ≤ z.1 then True else (vp_in (x1 + z.1) 2184) ∧ ((vp_in (x3 + z.1) 364) ∧ (g_let (g_set z.2 1 (upd (z.2 1) (x3 + z.1).toNatClampNeg (z.2 0 (x1 + z.1).toNatClampNeg))) (fun z4 : gM => g_let ((z.1 + (1 : Int32))) (fun z5 : Int32 => True)))))
set_option maxRecDepth 100000 in
set_option maxHeartbeats 4000000 in
theorem lp_r_lays2_3 {p : Program} {l : Launch} {e : Env} {s : State} {m9 : MethodId} {args : Array Value} {below : List Frame} {meth : Method} {c : Code} {G : gG} {A : Nat → Prop} {Q : State → Prop} {q : Nat → Nat} (C : xC p s m9 args meth c G A 5 cX3_lays RX3 wsX3_lays) (hq : gD A q shl2.length) (h : gN) (x1 : Int32) (x3 : Int32) : ∀ (n : Nat) (z : Int32 × gM), rOk (L_r_lays2_3 x1 x3) (K_r_lays2_3 x1 x3) n z → (∀ z' : Int32 × gM, run (L_r_lays2_3 x1 x3) n z = z' → xJ p l e rm_r_lays2 s m9 args below meth c G A 5 Q 0 0 shl2 q z'.2 h [(0, .ref (q 0)), (1, .int x1), (2, .ref (q 1)), (3, .int x3), (4, .int z'.1)] [] 29) → xJ p l e rm_r_lays2 s m9 args below meth c G A 5 Q 0 0 shl2 q z.2 h [(0, .ref (q 0)), (1, .int x1), (2, .ref (q 1)), (3, .int x3), (4, .int z.1)] [] 3 := by
  intro n
  induction n with
  | zero =>
    intro z hok _
    exact rOk_0 hok
  | succ n ih =>
    intro z hok K0
    have hnx := rOk_2 hok
    have hok := rOk_1 hok
    have hf := L_r_lays2_3.eq_1 x1 x3 z
    have hok := Eq.mp (K_r_lays2_3.eq_1 x1 x3 z) hok
    refine x_iload C dX3_lays_3 4 rfl ?_
    refine x_sipush (v := (364 : Int32)) C dX3_lays_5 (by decide) ?_
    refine x_icmp_ge (tgt := 29) C dX3_lays_8 (by decide) (fun c1 => ?_) (fun c1 => ?_)
    · have hf := hf.trans (if_pos c1)
      have hok := g_ip c1 hok
      exact K0 ((z.1, z.2)) (run_f hf)
    · have hf := hf.trans (if_neg c1)
      have hok := g_in c1 hok
      refine x_aload_n C dX3_lays_11 rfl 2 rfl ?_
      refine x_iload_n C dX3_lays_12 rfl 3 rfl ?_
      refine x_iload C dX3_lays_13 4 rfl ?_
      refine x_iadd C dX3_lays_15 ?_
      refine x_aload_n C dX3_lays_16 rfl 0 rfl ?_
      refine x_iload_n C dX3_lays_17 rfl 1 rfl ?_
      refine x_iload C dX3_lays_18 4 rfl ?_
      refine x_iadd C dX3_lays_20 ?_
      have s2 := And.left hok
      have hok := And.right hok
      refine x_iald (n := 2184) (v := (z.2 0 (x1 + z.1).toNatClampNeg)) C 0 rfl s2 rfl dX3_lays_21 ?_
      have s3 := And.left hok
      have hok := And.right hok
      obtain ⟨z4, hz4⟩ : ∃ y9 : gM, y9 = g_set z.2 1 (upd (z.2 1) (x3 + z.1).toNatClampNeg (z.2 0 (x1 + z.1).toNatClampNeg)) := ⟨_, rfl⟩
      have hf := hf.trans (g_let_eq hz4)
      have hok := g_let_p hz4 hok
      refine x_iast (μ' := z4) (n := 364) C hq 1 rfl s3 hz4 dX3_lays_22 ?_
      obtain ⟨z5, hz5⟩ : ∃ y9 : Int32, y9 = (z.1 + (1 : Int32)) := ⟨_, rfl⟩
      have hf := hf.trans (g_let_eq hz5)
      have hok := g_let_p hz5 hok
      refine x_iinc (v := z5) (lv' := [(0, .ref (q 0)), (1, .int x1), (2, .ref (q 1)), (3, .int x3), (4, .int z5)]) C dX3_lays_23 4 rfl hz5.symm (by decide) [1, 2, 3, 4, 0] rfl ?_
      refine x_goto (tgt := 3) C dX3_lays_26 (by decide) ?_
      exact ih ((z5, z4)) (rOk_t hnx hf) (fun z' hz => K0 z' ((run_t hf).trans hz))
noncomputable def f_r_lays2 (m : gM) (a1 : Int32) (a2 : Int32) : gM := g_let (run (L_r_lays2_3 a1 a2) 400 (((0 : Int32), m))) (fun z2 : Int32 × gM => z2.2)
noncomputable def o_r_lays2 (m : gM) (a1 : Int32) (a2 : Int32) : Prop := (rOk (L_r_lays2_3 a1 a2) (K_r_lays2_3 a1 a2) 400 (((0 : Int32), m))) ∧ (g_let (run (L_r_lays2_3 a1 a2) 400 (((0 : Int32), m))) (fun z2 : Int32 × gM => True))
set_option maxRecDepth 100000 in
set_option maxHeartbeats 4000000 in
theorem c_r_lays2 (l : Launch) (G : gG) (q : Nat → Nat) (m : gM) (h : gN) (a1 : Int32) (a2 : Int32) (hok : o_r_lays2 m a1 a2) : gMv l yX3_lays wsX3_lays rm_r_lays2 G shl2 q m h [.ref (q 0), .int a1, .ref (q 1), .int a2] (f_r_lays2 m a1 a2) h := by
  intro sz
  refine g_met (cc := cX3_lays) (maxL := 5) (ret := none) (own := RX3) (Qc := fun sz => gQv G shl2 q (f_r_lays2 m a1 a2) h sz) (by decide) rfl rfl (Nat.le_of_ble_eq_true rfl) (fun p e s m9 below meth c C hq hr => ?_)
  refine x_lv (lv' := [(0, .ref (q 0)), (1, .int a1), (2, .ref (q 1)), (3, .int a2)]) [0, 1, 2, 3] rfl ?_
  have hf := f_r_lays2.eq_1 m a1 a2
  have hok := Eq.mp (o_r_lays2.eq_1 m a1 a2) hok
  refine x_iconst (v := (0 : Int32)) C dX3_lays_0 (by decide) ?_
  refine x_istore (lv' := [(0, .ref (q 0)), (1, .int a1), (2, .ref (q 1)), (3, .int a2), (4, .int (0 : Int32))]) C dX3_lays_1 (by decide) [1, 2, 3, 4, 0] rfl ?_
  have s1 := And.left hok
  have hok := And.right hok
  refine lp_r_lays2_3 C hq h a1 a2 400 (((0 : Int32), m)) s1 (fun z2 hz2 => ?_)
  have hf := hf.trans (g_let_eq hz2.symm)
  have hok := g_let_p hz2.symm hok
  exact g_vret C hr dX3_lays_29 hf.symm rfl
def shl3 : List gC := [.inl 364, .inl 364]
abbrev rm_r_lays3 : Room := { frames := 0, cells := 0, slots := 0, locals := 0 }
noncomputable def L_r_lays3_3 (x1 : Int32) (x3 : Int32) (z : Int32 × gM) : Bool × (Int32 × gM) := (if (364 : Int32) ≤ z.1 then (false, (z.1, z.2)) else g_let (g_set z.2 1 (upd (z.2 1) (x3 + z.1).toNatClampNeg (z.2 0 (x1 + z.1).toNatClampNeg))) (fun z4 : gM => g_let ((z.1 + (1 : Int32))) (fun z5 : Int32 => (true, (z5, z4)))))
noncomputable def K_r_lays3_3 (x1 : Int32) (x3 : Int32) (z : Int32 × gM) : Prop := (if (364 : Int32) ≤ z.1 then True else (vp_in (x1 + z.1) 364) ∧ ((vp_in (x3 + z.1) 364) ∧ (g_let (g_set z.2 1 (upd (z.2 1) (x3 + z.1).toNatClampNeg (z.2 0 (x1 + z.1).toNatClampNeg))) (fun z4 : gM => g_let ((z.1 + (1 : Int32))) (fun z5 : Int32 => True)))))
set_option maxRecDepth 100000 in
set_option maxHeartbeats 4000000 in
theorem lp_r_lays3_3 {p : Program} {l : Launch} {e : Env} {s : State} {m9 : MethodId} {args : Array Value} {below : List Frame} {meth : Method} {c : Code} {G : gG} {A : Nat → Prop} {Q : State → Prop} {q : Nat → Nat} (C : xC p s m9 args meth c G A 5 cX3_lays RX3 wsX3_lays) (hq : gD A q shl3.length) (h : gN) (x1 : Int32) (x3 : Int32) : ∀ (n : Nat) (z : Int32 × gM), rOk (L_r_lays3_3 x1 x3) (K_r_lays3_3 x1 x3) n z → (∀ z' : Int32 × gM, run (L_r_lays3_3 x1 x3) n z = z' → xJ p l e rm_r_lays3 s m9 args below meth c G A 5 Q 0 0 shl3 q z'.2 h [(0, .ref (q 0)), (1, .int x1), (2, .ref (q 1)), (3, .int x3), (4, .int z'.1)] [] 29) → xJ p l e rm_r_lays3 s m9 args below meth c G A 5 Q 0 0 shl3 q z.2 h [(0, .ref (q 0)), (1, .int x1), (2, .ref (q 1)), (3, .int x3), (4, .int z.1)] [] 3 := by
  intro n
  induction n with
  | zero =>
    intro z hok _
    exact rOk_0 hok
  | succ n ih =>
    intro z hok K0
    have hnx := rOk_2 hok
    have hok := rOk_1 hok
    have hf := L_r_lays3_3.eq_1 x1 x3 z
    have hok := Eq.mp (K_r_lays3_3.eq_1 x1 x3 z) hok
    refine x_iload C dX3_lays_3 4 rfl ?_
    refine x_sipush (v := (364 : Int32)) C dX3_lays_5 (by decide) ?_
    refine x_icmp_ge (tgt := 29) C dX3_lays_8 (by decide) (fun c1 => ?_) (fun c1 => ?_)
    · have hf := hf.trans (if_pos c1)
      have hok := g_ip c1 hok
      exact K0 ((z.1, z.2)) (run_f hf)
    · have hf := hf.trans (if_neg c1)
      have hok := g_in c1 hok
      refine x_aload_n C dX3_lays_11 rfl 2 rfl ?_
      refine x_iload_n C dX3_lays_12 rfl 3 rfl ?_
      refine x_iload C dX3_lays_13 4 rfl ?_
      refine x_iadd C dX3_lays_15 ?_
      refine x_aload_n C dX3_lays_16 rfl 0 rfl ?_
      refine x_iload_n C dX3_lays_17 rfl 1 rfl ?_
      refine x_iload C dX3_lays_18 4 rfl ?_
      refine x_iadd C dX3_lays_20 ?_
      have s2 := And.left hok
      have hok := And.right hok
      refine x_iald (n := 364) (v := (z.2 0 (x1 + z.1).toNatClampNeg)) C 0 rfl s2 rfl dX3_lays_21 ?_
      have s3 := And.left hok
      have hok := And.right hok
      obtain ⟨z4, hz4⟩ : ∃ y9 : gM, y9 = g_set z.2 1 (upd (z.2 1) (x3 + z.1).toNatClampNeg (z.2 0 (x1 + z.1).toNatClampNeg)) := ⟨_, rfl⟩
      have hf := hf.trans (g_let_eq hz4)
      have hok := g_let_p hz4 hok
      refine x_iast (μ' := z4) (n := 364) C hq 1 rfl s3 hz4 dX3_lays_22 ?_
      obtain ⟨z5, hz5⟩ : ∃ y9 : Int32, y9 = (z.1 + (1 : Int32)) := ⟨_, rfl⟩
      have hf := hf.trans (g_let_eq hz5)
      have hok := g_let_p hz5 hok
      refine x_iinc (v := z5) (lv' := [(0, .ref (q 0)), (1, .int x1), (2, .ref (q 1)), (3, .int x3), (4, .int z5)]) C dX3_lays_23 4 rfl hz5.symm (by decide) [1, 2, 3, 4, 0] rfl ?_
      refine x_goto (tgt := 3) C dX3_lays_26 (by decide) ?_
      exact ih ((z5, z4)) (rOk_t hnx hf) (fun z' hz => K0 z' ((run_t hf).trans hz))
noncomputable def f_r_lays3 (m : gM) (a1 : Int32) (a2 : Int32) : gM := g_let (run (L_r_lays3_3 a1 a2) 400 (((0 : Int32), m))) (fun z2 : Int32 × gM => z2.2)
noncomputable def o_r_lays3 (m : gM) (a1 : Int32) (a2 : Int32) : Prop := (rOk (L_r_lays3_3 a1 a2) (K_r_lays3_3 a1 a2) 400 (((0 : Int32), m))) ∧ (g_let (run (L_r_lays3_3 a1 a2) 400 (((0 : Int32), m))) (fun z2 : Int32 × gM => True))
set_option maxRecDepth 100000 in
set_option maxHeartbeats 4000000 in
theorem c_r_lays3 (l : Launch) (G : gG) (q : Nat → Nat) (m : gM) (h : gN) (a1 : Int32) (a2 : Int32) (hok : o_r_lays3 m a1 a2) : gMv l yX3_lays wsX3_lays rm_r_lays3 G shl3 q m h [.ref (q 0), .int a1, .ref (q 1), .int a2] (f_r_lays3 m a1 a2) h := by
  intro sz
  refine g_met (cc := cX3_lays) (maxL := 5) (ret := none) (own := RX3) (Qc := fun sz => gQv G shl3 q (f_r_lays3 m a1 a2) h sz) (by decide) rfl rfl (Nat.le_of_ble_eq_true rfl) (fun p e s m9 below meth c C hq hr => ?_)
  refine x_lv (lv' := [(0, .ref (q 0)), (1, .int a1), (2, .ref (q 1)), (3, .int a2)]) [0, 1, 2, 3] rfl ?_
  have hf := f_r_lays3.eq_1 m a1 a2
  have hok := Eq.mp (o_r_lays3.eq_1 m a1 a2) hok
  refine x_iconst (v := (0 : Int32)) C dX3_lays_0 (by decide) ?_
  refine x_istore (lv' := [(0, .ref (q 0)), (1, .int a1), (2, .ref (q 1)), (3, .int a2), (4, .int (0 : Int32))]) C dX3_lays_1 (by decide) [1, 2, 3, 4, 0] rfl ?_
  have s1 := And.left hok
  have hok := And.right hok
  refine lp_r_lays3_3 C hq h a1 a2 400 (((0 : Int32), m)) s1 (fun z2 hz2 => ?_)
  have hf := hf.trans (g_let_eq hz2.symm)
  have hok := g_let_p hz2.symm hok
  exact g_vret C hr dX3_lays_29 hf.symm rfl
