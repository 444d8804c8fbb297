set_option maxRecDepth 20000 in
theorem in_X3_ofPage_3 : ∀ w ∈ u_ws RX3 TX3 12, w ∈ wsX3_ofPage := by decide +kernel
set_option maxRecDepth 20000 in
theorem k_X3_ofPage_7 : Cond.fieldLink RX3 7 "HintedPagesModel" "now" "[I" ∈ wsX3_ofPage := by decide +kernel
abbrev rm_r_ofPage : Room := { frames := 1, cells := 0, slots := 0, locals := 22 }
noncomputable def f_r_ofPage (m : gM) (a1 : Int32) (a2 : Int32) : Int32 := g_let ((f_r_of (g_sel [1] m) a1 (0 : Int32))) (fun z2 : Int32 => (if a2 = 0 then (if z2 = (-1 : Int32) then (-1 : Int32) else (z2 / (8 : Int32))) else (if a2 = (1 : Int32) then (if z2 = (-1 : Int32) then (-1 : Int32) else (z2 - z2 / (8 : Int32) * (8 : Int32))) else (if a2 = (2 : Int32) then (f_r_of (g_sel [1] m) a1 (1 : Int32)) else (f_r_of (g_sel [1] m) a1 (a2 - (1 : Int32)))))))
noncomputable def o_r_ofPage (m : gM) (a1 : Int32) (a2 : Int32) : Prop := (o_r_of (g_sel [1] m) a1 (0 : Int32)) ∧ (g_let ((f_r_of (g_sel [1] m) a1 (0 : Int32))) (fun z2 : Int32 => (if a2 = 0 then (if z2 = (-1 : Int32) then True else True) else (if a2 = (1 : Int32) then (if z2 = (-1 : Int32) then True else True) else (if a2 = (2 : Int32) then (o_r_of (g_sel [1] m) a1 (1 : Int32)) ∧ (True) else (o_r_of (g_sel [1] m) a1 (a2 - (1 : Int32))) ∧ (True))))))
set_option maxRecDepth 100000 in
set_option maxHeartbeats 4000000 in
theorem c_r_ofPage (l : Launch) (G : gG) (q : Nat → Nat) (m : gM) (h : gN) (a1 : Int32) (a2 : Int32) (hok : o_r_ofPage m a1 a2) : gMi l yX3_ofPage wsX3_ofPage rm_r_ofPage G shM q m h [.ref (q 0), .int a1, .int a2] m h (f_r_ofPage m a1 a2) := by
  intro sz
  refine g_met (cc := cX3_ofPage) (maxL := 4) (ret := (some .int)) (own := RX3) (Qc := fun sz => gQi G shM q m h sz (f_r_ofPage m a1 a2)) (by decide) rfl rfl (Nat.le_of_ble_eq_true rfl) (fun p e s m9 below meth c C hq hr => ?_)
  refine x_lv (lv' := [(0, .ref (q 0)), (1, .int a1), (2, .int a2)]) [0, 1, 2] rfl ?_
  have hf := f_r_ofPage.eq_1 m a1 a2
  have hok := Eq.mp (o_r_ofPage.eq_1 m a1 a2) hok
  refine x_aload_n C dX3_ofPage_0 rfl 0 rfl ?_
  refine x_get (v := .ref (q 1)) C in_X3_ofPage_3 0 rfl rfl 0 (by decide) k_X3_ofPage_7 rfl rfl dX3_ofPage_1 ?_
  refine x_iload_n C dX3_ofPage_4 rfl 1 rfl ?_
  refine x_iconst (v := (0 : Int32)) C dX3_ofPage_5 (by decide) ?_
  have s1 := And.left hok
  have hok := And.right hok
  refine x_callSi (n := 3) C hq (gFr_pure gs_M_r_1) (c_r_of l G (g_sel [1] q) (g_sel [1] m) (g_sel [1] h) a1 (0 : Int32) s1) (va_cwS 3 C.2.2.2.2.2.1 gX3_ofPage_X3_of rfl rfl rfl (by decide +kernel) ⟨Nat.le_of_ble_eq_true rfl, Nat.le_of_ble_eq_true rfl⟩) rfl rfl (Nat.le_of_ble_eq_true rfl) dX3_ofPage_6 (Nat.zero_le _) (Nat.zero_le _) ?_
  obtain ⟨z2, hz2⟩ : ∃ y9 : Int32, y9 = (f_r_of (g_sel [1] m) a1 (0 : Int32)) := ⟨_, rfl⟩
  have hf := hf.trans (g_let_eq hz2)
  have hok := g_let_p hz2 hok
  refine x_topi hz2 ?_
  refine x_istore_n (lv' := [(0, .ref (q 0)), (1, .int a1), (2, .int a2), (3, .int z2)]) C dX3_ofPage_9 rfl (by decide) [1, 2, 3, 0] rfl ?_
  refine x_iload_n C dX3_ofPage_10 rfl 2 rfl ?_
  refine x_if_ne (tgt := 30) C dX3_ofPage_11 (by decide) (fun c3 => ?_) (fun c3 => ?_)
  · have hf := hf.trans (if_neg c3)
    have hok := g_in c3 hok
    refine x_iload_n C dX3_ofPage_30 rfl 2 rfl ?_
    refine x_iconst (v := (1 : Int32)) C dX3_ofPage_31 (by decide) ?_
    refine x_icmp_ne (tgt := 51) C dX3_ofPage_32 (by decide) (fun c4 => ?_) (fun c4 => ?_)
    · have hf := hf.trans (if_neg c4)
      have hok := g_in c4 hok
      refine x_iload_n C dX3_ofPage_51 rfl 2 rfl ?_
      refine x_iconst (v := (2 : Int32)) C dX3_ofPage_52 (by decide) ?_
      refine x_icmp_ne (tgt := 68) C dX3_ofPage_53 (by decide) (fun c5 => ?_) (fun c5 => ?_)
      · have hf := hf.trans (if_neg c5)
        have hok := g_in c5 hok
        refine x_aload_n C dX3_ofPage_68 rfl 0 rfl ?_
        refine x_get (v := .ref (q 1)) C in_X3_ofPage_3 0 rfl rfl 0 (by decide) k_X3_ofPage_7 rfl rfl dX3_ofPage_69 ?_
        refine x_iload_n C dX3_ofPage_72 rfl 1 rfl ?_
        refine x_iload_n C dX3_ofPage_73 rfl 2 rfl ?_
        refine x_iconst (v := (1 : Int32)) C dX3_ofPage_74 (by decide) ?_
        refine x_isub C dX3_ofPage_75 ?_
        have s6 := And.left hok
        have hok := And.right hok
        refine x_callSi (n := 3) C hq (gFr_pure gs_M_r_1) (c_r_of l G (g_sel [1] q) (g_sel [1] m) (g_sel [1] h) a1 (a2 - (1 : Int32)) s6) (va_cwS 3 C.2.2.2.2.2.1 gX3_ofPage_X3_of rfl rfl rfl (by decide +kernel) ⟨Nat.le_of_ble_eq_true rfl, Nat.le_of_ble_eq_true rfl⟩) rfl rfl (Nat.le_of_ble_eq_true rfl) dX3_ofPage_76 (Nat.zero_le _) (Nat.zero_le _) ?_
        exact g_iret C hr rfl dX3_ofPage_79 hf.symm rfl rfl
      · have hf := hf.trans (if_pos c5)
        have hok := g_ip c5 hok
        refine x_aload_n C dX3_ofPage_56 rfl 0 rfl ?_
        refine x_get (v := .ref (q 1)) C in_X3_ofPage_3 0 rfl rfl 0 (by decide) k_X3_ofPage_7 rfl rfl dX3_ofPage_57 ?_
        refine x_iload_n C dX3_ofPage_60 rfl 1 rfl ?_
        refine x_iconst (v := (1 : Int32)) C dX3_ofPage_61 (by decide) ?_
        have s7 := And.left hok
        have hok := And.right hok
        refine x_callSi (n := 3) C hq (gFr_pure gs_M_r_1) (c_r_of l G (g_sel [1] q) (g_sel [1] m) (g_sel [1] h) a1 (1 : Int32) s7) (va_cwS 3 C.2.2.2.2.2.1 gX3_ofPage_X3_of rfl rfl rfl (by decide +kernel) ⟨Nat.le_of_ble_eq_true rfl, Nat.le_of_ble_eq_true rfl⟩) rfl rfl (Nat.le_of_ble_eq_true rfl) dX3_ofPage_62 (Nat.zero_le _) (Nat.zero_le _) ?_
        refine x_goto (tgt := 79) C dX3_ofPage_65 (by decide) ?_
        exact g_iret C hr rfl dX3_ofPage_79 hf.symm rfl rfl
    · have hf := hf.trans (if_pos c4)
      have hok := g_ip c4 hok
      refine x_iload_n C dX3_ofPage_35 rfl 3 rfl ?_
      refine x_iconst (v := (-1 : Int32)) C dX3_ofPage_36 (by decide) ?_
      refine x_icmp_ne (tgt := 44) C dX3_ofPage_37 (by decide) (fun c8 => ?_) (fun c8 => ?_)
      · have hf := hf.trans (if_neg c8)
        have hok := g_in c8 hok
        refine x_iload_n C dX3_ofPage_44 rfl 3 rfl ?_
        refine x_bipush (v := (8 : Int32)) C dX3_ofPage_45 (by decide) ?_
        refine x_irem C dX3_ofPage_47 (by decide) ?_
        refine x_goto (tgt := 79) C dX3_ofPage_48 (by decide) ?_
        exact g_iret C hr rfl dX3_ofPage_79 hf.symm rfl rfl
      · have hf := hf.trans (if_pos c8)
        have hok := g_ip c8 hok
        refine x_iconst (v := (-1 : Int32)) C dX3_ofPage_40 (by decide) ?_
        refine x_goto (tgt := 79) C dX3_ofPage_41 (by decide) ?_
        exact g_iret C hr rfl dX3_ofPage_79 hf.symm rfl rfl
  · have hf := hf.trans (if_pos c3)
    have hok := g_ip c3 hok
    refine x_iload_n C dX3_ofPage_14 rfl 3 rfl ?_
    refine x_iconst (v := (-1 : Int32)) C dX3_ofPage_15 (by decide) ?_
    refine x_icmp_ne (tgt := 23) C dX3_ofPage_16 (by decide) (fun c9 => ?_) (fun c9 => ?_)
    · have hf := hf.trans (if_neg c9)
      have hok := g_in c9 hok
      refine x_iload_n C dX3_ofPage_23 rfl 3 rfl ?_
      refine x_bipush (v := (8 : Int32)) C dX3_ofPage_24 (by decide) ?_
      refine x_idiv C dX3_ofPage_26 (by decide) ?_
      refine x_goto (tgt := 79) C dX3_ofPage_27 (by decide) ?_
      exact g_iret C hr rfl dX3_ofPage_79 hf.symm rfl rfl
    · have hf := hf.trans (if_pos c9)
      have hok := g_ip c9 hok
      refine x_iconst (v := (-1 : Int32)) C dX3_ofPage_19 (by decide) ?_
      refine x_goto (tgt := 79) C dX3_ofPage_20 (by decide) ?_
      exact g_iret C hr rfl dX3_ofPage_79 hf.symm rfl rfl
set_option maxRecDepth 20000 in
theorem in_X3_page_3 : ∀ w ∈ u_ws RX3 TX3 12, w ∈ wsX3_page := by decide +kernel
set_option maxRecDepth 20000 in
theorem k_X3_page_25 : Cond.fieldLink RX3 25 "HintedPagesModel" "thrown" "I" ∈ wsX3_page := by decide +kernel
abbrev rm_r_page : Room := { frames := 2, cells := 0, slots := 0, locals := 45 }
noncomputable def f_r_page (m : gM) (a1 : Int32) (a2 : Int32) : Int32 × gM := g_let (g_set m 0 (upd (m 0) 6 (0 : Int32))) (fun z1 : gM => (if (f_r_isPage a1) = 0 then g_let (f_r_fails z1 (1 : Int32)) (fun z10 : Int32 × gM => (z10.1, z10.2)) else (if (f_r_in a2 (0 : Int32) (5 : Int32)) = 0 then g_let (f_r_fails z1 (2 : Int32)) (fun z7 : Int32 × gM => (z7.1, z7.2)) else ((f_r_ofPage z1 a1 a2), z1))))
noncomputable def o_r_page (m : gM) (a1 : Int32) (a2 : Int32) : Prop := g_let (g_set m 0 (upd (m 0) 6 (0 : Int32))) (fun z1 : gM => (o_r_isPage a1) ∧ ((if (f_r_isPage a1) = 0 then (o_r_fails z1 (1 : Int32)) ∧ (g_let (f_r_fails z1 (1 : Int32)) (fun z10 : Int32 × gM => True)) else (o_r_in a2 (0 : Int32) (5 : Int32)) ∧ ((if (f_r_in a2 (0 : Int32) (5 : Int32)) = 0 then (o_r_fails z1 (2 : Int32)) ∧ (g_let (f_r_fails z1 (2 : Int32)) (fun z7 : Int32 × gM => True)) else (o_r_ofPage z1 a1 a2) ∧ (True))))))
set_option maxRecDepth 100000 in
set_option maxHeartbeats 4000000 in
theorem c_r_page (l : Launch) (G : gG) (q : Nat → Nat) (m : gM) (h : gN) (a1 : Int32) (a2 : Int32) (hok : o_r_page m a1 a2) : gMi l yX3_page wsX3_page rm_r_page G shM q m h [.ref (q 0), .int a1, .int a2] ((f_r_page m a1 a2).2) h ((f_r_page m a1 a2).1) := by
  intro sz
  refine g_met (cc := cX3_page) (maxL := 3) (ret := (some .int)) (own := RX3) (Qc := fun sz => gQi G shM q ((f_r_page m a1 a2).2) h sz ((f_r_page m a1 a2).1)) (by decide) rfl rfl (Nat.le_of_ble_eq_true rfl) (fun p e s m9 below meth c C hq hr => ?_)
  refine x_lv (lv' := [(0, .ref (q 0)), (1, .int a1), (2, .int a2)]) [0, 1, 2] rfl ?_
  have hf := f_r_page.eq_1 m a1 a2
  have hok := Eq.mp (o_r_page.eq_1 m a1 a2) hok
  refine x_aload_n C dX3_page_0 rfl 0 rfl ?_
  refine x_iconst (v := (0 : Int32)) C dX3_page_1 (by decide) ?_
  obtain ⟨z1, hz1⟩ : ∃ y9 : gM, y9 = g_set m 0 (upd (m 0) 6 (0 : Int32)) := ⟨_, rfl⟩
  have hf := hf.trans (g_let_eq hz1)
  have hok := g_let_p hz1 hok
  refine x_puti (μ' := z1) (ty := .int) C hq tyX3 tyX3_ok nmX3 in_X3_page_3 0 rfl rfl 6 (by decide) k_X3_page_25 rfl (tyX3_ok 6 (by decide)) rfl rfl rfl hz1 dX3_page_2 ?_
  refine x_iload_n C dX3_page_5 rfl 1 rfl ?_
  have s2 := And.left hok
  have hok := And.right hok
  refine x_callSi (n := 1) C hq (gFr_pure gs_M_0_) (c_r_isPage l G (g_sel [] q) (g_sel [] z1) (g_sel [] h) a1 s2) (va_cwS 1 C.2.2.2.2.2.1 gX3_page_X3_isPage rfl rfl rfl (by decide +kernel) ⟨Nat.le_of_ble_eq_true rfl, Nat.le_of_ble_eq_true rfl⟩) rfl rfl (Nat.le_of_ble_eq_true rfl) dX3_page_6 (Nat.zero_le _) (Nat.zero_le _) ?_
  refine x_if_ne (tgt := 18) C dX3_page_9 (by decide) (fun c3 => ?_) (fun c3 => ?_)
  · have hf := hf.trans (if_neg c3)
    have hok := g_in c3 hok
    refine x_iload_n C dX3_page_18 rfl 2 rfl ?_
    refine x_iconst (v := (0 : Int32)) C dX3_page_19 (by decide) ?_
    refine x_iconst (v := (5 : Int32)) C dX3_page_20 (by decide) ?_
    have s4 := And.left hok
    have hok := And.right hok
    refine x_callSi (n := 3) C hq (gFr_pure gs_M_0_) (c_r_in l G (g_sel [] q) (g_sel [] z1) (g_sel [] h) a2 (0 : Int32) (5 : Int32) s4) (va_cwS 3 C.2.2.2.2.2.1 gX3_page_X3_in rfl rfl rfl (by decide +kernel) ⟨Nat.le_of_ble_eq_true rfl, Nat.le_of_ble_eq_true rfl⟩) rfl rfl (Nat.le_of_ble_eq_true rfl) dX3_page_21 (Nat.zero_le _) (Nat.zero_le _) ?_
    refine x_if_eq (tgt := 36) C dX3_page_24 (by decide) (fun c5 => ?_) (fun c5 => ?_)
    · have hf := hf.trans (if_pos c5)
      have hok := g_ip c5 hok
      refine x_aload_n C dX3_page_36 rfl 0 rfl ?_
      refine x_iconst (v := (2 : Int32)) C dX3_page_37 (by decide) ?_
      have s6 := And.left hok
      have hok := And.right hok
      obtain ⟨z7, hz7⟩ : ∃ y9 : Int32 × gM, y9 = f_r_fails z1 (2 : Int32) := ⟨_, rfl⟩
      have hf := hf.trans (g_let_eq hz7)
      have hok := g_let_p hz7 hok
      have hmz7 : gMi l yX3_fails wsX3_fails rm_r_fails G shM q z1 h [.ref (q 0), .int (2 : Int32)] z7.2 h z7.1 := by rw [hz7]; exact c_r_fails l G q z1 h (2 : Int32) s6
      refine x_callVi (n := 1) C hq gFr_same (hmz7) (cwV 1 C.2.2.2.2.2.1 gX3_page_X3_fails rfl rfl rfl (by decide +kernel) ⟨Nat.le_of_ble_eq_true rfl, Nat.le_of_ble_eq_true rfl⟩) rfl rfl rfl rfl (Nat.le_of_ble_eq_true rfl) dX3_page_38 (Nat.zero_le _) (Nat.zero_le _) ?_
      exact g_iret C hr rfl dX3_page_41 (congrArg (fun z => z.1) hf).symm (congrArg (fun z => z.2) hf).symm rfl
    · have hf := hf.trans (if_neg c5)
      have hok := g_in c5 hok
      refine x_aload_n C dX3_page_27 rfl 0 rfl ?_
      refine x_iload_n C dX3_page_28 rfl 1 rfl ?_
      refine x_iload_n C dX3_page_29 rfl 2 rfl ?_
      have s8 := And.left hok
      have hok := And.right hok
      refine x_callVi (n := 2) C hq gFr_same (c_r_ofPage l G q z1 h a1 a2 s8) (cwV 2 C.2.2.2.2.2.1 gX3_page_X3_ofPage rfl rfl rfl (by decide +kernel) ⟨Nat.le_of_ble_eq_true rfl, Nat.le_of_ble_eq_true rfl⟩) rfl rfl rfl rfl (Nat.le_of_ble_eq_true rfl) dX3_page_30 (Nat.zero_le _) (Nat.zero_le _) ?_
      refine x_goto (tgt := 41) C dX3_page_33 (by decide) ?_
      exact g_iret C hr rfl dX3_page_41 (congrArg (fun z => z.1) hf).symm (congrArg (fun z => z.2) hf).symm rfl
  · have hf := hf.trans (if_pos c3)
    have hok := g_ip c3 hok
    refine x_aload_n C dX3_page_12 rfl 0 rfl ?_
    refine x_iconst (v := (1 : Int32)) C dX3_page_13 (by decide) ?_
    have s9 := And.left hok
    have hok := And.right hok
    obtain ⟨z10, hz10⟩ : ∃ y9 : Int32 × gM, y9 = f_r_fails z1 (1 : Int32) := ⟨_, rfl⟩
    have hf := hf.trans (g_let_eq hz10)
    have hok := g_let_p hz10 hok
    have hmz10 : gMi l yX3_fails wsX3_fails rm_r_fails G shM q z1 h [.ref (q 0), .int (1 : Int32)] z10.2 h z10.1 := by rw [hz10]; exact c_r_fails l G q z1 h (1 : Int32) s9
    refine x_callVi (n := 1) C hq gFr_same (hmz10) (cwV 1 C.2.2.2.2.2.1 gX3_page_X3_fails rfl rfl rfl (by decide +kernel) ⟨Nat.le_of_ble_eq_true rfl, Nat.le_of_ble_eq_true rfl⟩) rfl rfl rfl rfl (Nat.le_of_ble_eq_true rfl) dX3_page_14 (Nat.zero_le _) (Nat.zero_le _) ?_
    exact g_iret C hr rfl dX3_page_17 (congrArg (fun z => z.1) hf).symm (congrArg (fun z => z.2) hf).symm rfl
set_option maxRecDepth 20000 in
theorem in_X3_closedAhead_3 : ∀ w ∈ u_ws RX3 TX3 12, w ∈ wsX3_closedAhead := by decide +kernel
set_option maxRecDepth 20000 in
theorem k_X3_closedAhead_7 : Cond.fieldLink RX3 7 "HintedPagesModel" "now" "[I" ∈ wsX3_closedAhead := by decide +kernel
abbrev rm_r_closedAhead : Room := { frames := 0, cells := 0, slots := 0, locals := 0 }
noncomputable def L_r_closedAhead_19 (m : gM) (x1 : Int32) (z : Int32 × Int32) : Bool × (Int32 × Int32) := (if (12 : Int32) ≤ z.2 then (false, (z.1, z.2)) else (if (m 1 ((96 : Int32) + z.2).toNatClampNeg) = (2 : Int32) then (if (m 1 ((132 : Int32) + x1).toNatClampNeg) ≤ (m 1 ((132 : Int32) + z.2).toNatClampNeg) then g_let ((z.1 + (0 : Int32))) (fun z9 : Int32 => g_let ((z.2 + (1 : Int32))) (fun z10 : Int32 => (true, (z9, z10)))) else g_let ((z.1 + (1 : Int32))) (fun z11 : Int32 => g_let ((z.2 + (1 : Int32))) (fun z12 : Int32 => (true, (z11, z12))))) else g_let ((z.1 + (0 : Int32))) (fun z4 : Int32 => g_let ((z.2 + (1 : Int32))) (fun z5 : Int32 => (true, (z4, z5))))))
noncomputable def K_r_closedAhead_19 (m : gM) (x1 : Int32) (z : Int32 × Int32) : Prop := (if (12 : Int32) ≤ z.2 then True else (vp_in ((96 : Int32) + z.2) 364) ∧ ((if (m 1 ((96 : Int32) + z.2).toNatClampNeg) = (2 : Int32) then (vp_in ((132 : Int32) + z.2) 364) ∧ ((vp_in ((132 : Int32) + x1) 364) ∧ ((if (m 1 ((132 : Int32) + x1).toNatClampNeg) ≤ (m 1 ((132 : Int32) + z.2).toNatClampNeg) then g_let ((z.1 + (0 : Int32))) (fun z9 : Int32 => g_let ((z.2 + (1 : Int32))) (fun z10 : Int32 => True)) else g_let ((z.1 + (1 : Int32))) (fun z11 : Int32 => g_let ((z.2 + (1 : Int32))) (fun z12 : Int32 => True))))) else g_let ((z.1 + (0 : Int32))) (fun z4 : Int32 => g_let ((z.2 + (1 : Int32))) (fun z5 : Int32 => True)))))
set_option maxRecDepth 100000 in
set_option maxHeartbeats 4000000 in
theorem lp_r_closedAhead_19 {p : Program} {l : Launch} {e : Env} {s : State} {m9 : MethodId} {args : Array Value} {below : List Frame} {meth : Method} {c : Code} {G : gG} {A : Nat → Prop} {Q : State → Prop} {q : Nat → Nat} (C : xC p s m9 args meth c G A 4 cX3_closedAhead RX3 wsX3_closedAhead) (hq : gD A q shM.length) (m : gM) (h : gN) (x1 : Int32) : ∀ (n : Nat) (z : Int32 × Int32), rOk (L_r_closedAhead_19 m x1) (K_r_closedAhead_19 m x1) n z → (∀ z' : Int32 × Int32, run (L_r_closedAhead_19 m x1) n z = z' → xJ p l e rm_r_closedAhead s m9 args below meth c G A 4 Q 0 0 shM q m h [(0, .ref (q 0)), (1, .int x1), (2, .int z'.1), (3, .int z'.2)] [] 75) → xJ p l e rm_r_closedAhead s m9 args below meth c G A 4 Q 0 0 shM q m h [(0, .ref (q 0)), (1, .int x1), (2, .int z.1), (3, .int z.2)] [] 19 := by
  intro n
  induction n with
  | zero =>
    intro z hok _
    exact rOk_0 hok
  | succ n ih =>
    intro z hok K0
    have hnx := rOk_2 hok
    have hok := rOk_1 hok
    have hf := L_r_closedAhead_19.eq_1 m x1 z
    have hok := Eq.mp (K_r_closedAhead_19.eq_1 m x1 z) hok
    refine x_iload_n C dX3_closedAhead_19 rfl 3 rfl ?_
    refine x_bipush (v := (12 : Int32)) C dX3_closedAhead_20 (by decide) ?_
    refine x_icmp_ge (tgt := 75) C dX3_closedAhead_22 (by decide) (fun c1 => ?_) (fun c1 => ?_)
    · have hf := hf.trans (if_pos c1)
      have hok := g_ip c1 hok
      exact K0 ((z.1, z.2)) (run_f hf)
    · have hf := hf.trans (if_neg c1)
      have hok := g_in c1 hok
      refine x_iload_n C dX3_closedAhead_25 rfl 2 rfl ?_
      refine x_aload_n C dX3_closedAhead_26 rfl 0 rfl ?_
      refine x_get (v := .ref (q 1)) C in_X3_closedAhead_3 0 rfl rfl 0 (by decide) k_X3_closedAhead_7 rfl rfl dX3_closedAhead_27 ?_
      refine x_bipush (v := (96 : Int32)) C dX3_closedAhead_30 (by decide) ?_
      refine x_iload_n C dX3_closedAhead_32 rfl 3 rfl ?_
      refine x_iadd C dX3_closedAhead_33 ?_
      have s2 := And.left hok
      have hok := And.right hok
      refine x_iald (n := 364) (v := (m 1 ((96 : Int32) + z.2).toNatClampNeg)) C 1 rfl s2 rfl dX3_closedAhead_34 ?_
      refine x_iconst (v := (2 : Int32)) C dX3_closedAhead_35 (by decide) ?_
      refine x_icmp_ne (tgt := 66) C dX3_closedAhead_36 (by decide) (fun c3 => ?_) (fun c3 => ?_)
      · have hf := hf.trans (if_neg c3)
        have hok := g_in c3 hok
        refine x_iconst (v := (0 : Int32)) C dX3_closedAhead_66 (by decide) ?_
        refine x_iadd C dX3_closedAhead_67 ?_
        obtain ⟨z4, hz4⟩ : ∃ y9 : Int32, y9 = (z.1 + (0 : Int32)) := ⟨_, rfl⟩
        have hf := hf.trans (g_let_eq hz4)
        have hok := g_let_p hz4 hok
        refine x_topi hz4 ?_
        refine x_istore_n (lv' := [(0, .ref (q 0)), (1, .int x1), (2, .int z4), (3, .int z.2)]) C dX3_closedAhead_68 rfl (by decide) [1, 2, 0, 3] rfl ?_
        obtain ⟨z5, hz5⟩ : ∃ y9 : Int32, y9 = (z.2 + (1 : Int32)) := ⟨_, rfl⟩
        have hf := hf.trans (g_let_eq hz5)
        have hok := g_let_p hz5 hok
        refine x_iinc (v := z5) (lv' := [(0, .ref (q 0)), (1, .int x1), (2, .int z4), (3, .int z5)]) C dX3_closedAhead_69 3 rfl hz5.symm (by decide) [1, 2, 3, 0] rfl ?_
        refine x_goto (tgt := 19) C dX3_closedAhead_72 (by decide) ?_
        exact ih ((z4, z5)) (rOk_t hnx hf) (fun z' hz => K0 z' ((run_t hf).trans hz))
      · have hf := hf.trans (if_pos c3)
        have hok := g_ip c3 hok
        refine x_aload_n C dX3_closedAhead_39 rfl 0 rfl ?_
        refine x_get (v := .ref (q 1)) C in_X3_closedAhead_3 0 rfl rfl 0 (by decide) k_X3_closedAhead_7 rfl rfl dX3_closedAhead_40 ?_
        refine x_sipush (v := (132 : Int32)) C dX3_closedAhead_43 (by decide) ?_
        refine x_iload_n C dX3_closedAhead_46 rfl 3 rfl ?_
        refine x_iadd C dX3_closedAhead_47 ?_
        have s6 := And.left hok
        have hok := And.right hok
        refine x_iald (n := 364) (v := (m 1 ((132 : Int32) + z.2).toNatClampNeg)) C 1 rfl s6 rfl dX3_closedAhead_48 ?_
        refine x_aload_n C dX3_closedAhead_49 rfl 0 rfl ?_
        refine x_get (v := .ref (q 1)) C in_X3_closedAhead_3 0 rfl rfl 0 (by decide) k_X3_closedAhead_7 rfl rfl dX3_closedAhead_50 ?_
        refine x_sipush (v := (132 : Int32)) C dX3_closedAhead_53 (by decide) ?_
        refine x_iload_n C dX3_closedAhead_56 rfl 1 rfl ?_
        refine x_iadd C dX3_closedAhead_57 ?_
        have s7 := And.left hok
        have hok := And.right hok
        refine x_iald (n := 364) (v := (m 1 ((132 : Int32) + x1).toNatClampNeg)) C 1 rfl s7 rfl dX3_closedAhead_58 ?_
        refine x_icmp_ge (tgt := 66) C dX3_closedAhead_59 (by decide) (fun c8 => ?_) (fun c8 => ?_)
        · have hf := hf.trans (if_pos c8)
          have hok := g_ip c8 hok
          refine x_iconst (v := (0 : Int32)) C dX3_closedAhead_66 (by decide) ?_
          refine x_iadd C dX3_closedAhead_67 ?_
          obtain ⟨z9, hz9⟩ : ∃ y9 : Int32, y9 = (z.1 + (0 : Int32)) := ⟨_, rfl⟩
          have hf := hf.trans (g_let_eq hz9)
          have hok := g_let_p hz9 hok
          refine x_topi hz9 ?_
          refine x_istore_n (lv' := [(0, .ref (q 0)), (1, .int x1), (2, .int z9), (3, .int z.2)]) C dX3_closedAhead_68 rfl (by decide) [1, 2, 0, 3] rfl ?_
          obtain ⟨z10, hz10⟩ : ∃ y9 : Int32, y9 = (z.2 + (1 : Int32)) := ⟨_, rfl⟩
          have hf := hf.trans (g_let_eq hz10)
          have hok := g_let_p hz10 hok
          refine x_iinc (v := z10) (lv' := [(0, .ref (q 0)), (1, .int x1), (2, .int z9), (3, .int z10)]) C dX3_closedAhead_69 3 rfl hz10.symm (by decide) [1, 2, 3, 0] rfl ?_
          refine x_goto (tgt := 19) C dX3_closedAhead_72 (by decide) ?_
          exact ih ((z9, z10)) (rOk_t hnx hf) (fun z' hz => K0 z' ((run_t hf).trans hz))
        · have hf := hf.trans (if_neg c8)
          have hok := g_in c8 hok
          refine x_iconst (v := (1 : Int32)) C dX3_closedAhead_62 (by decide) ?_
          refine x_goto (tgt := 67) C dX3_closedAhead_63 (by decide) ?_
          refine x_iadd C dX3_closedAhead_67 ?_
          obtain ⟨z11, hz11⟩ : ∃ y9 : Int32, y9 = (z.1 + (1 : Int32)) := ⟨_, rfl⟩
          have hf := hf.trans (g_let_eq hz11)
          have hok := g_let_p hz11 hok
          refine x_topi hz11 ?_
          refine x_istore_n (lv' := [(0, .ref (q 0)), (1, .int x1), (2, .int z11), (3, .int z.2)]) C dX3_closedAhead_68 rfl (by decide) [1, 2, 0, 3] rfl ?_
          obtain ⟨z12, hz12⟩ : ∃ y9 : Int32, y9 = (z.2 + (1 : Int32)) := ⟨_, rfl⟩
          have hf := hf.trans (g_let_eq hz12)
          have hok := g_let_p hz12 hok
          refine x_iinc (v := z12) (lv' := [(0, .ref (q 0)), (1, .int x1), (2, .int z11), (3, .int z12)]) C dX3_closedAhead_69 3 rfl hz12.symm (by decide) [1, 2, 3, 0] rfl ?_
          refine x_goto (tgt := 19) C dX3_closedAhead_72 (by decide) ?_
          exact ih ((z11, z12)) (rOk_t hnx hf) (fun z' hz => K0 z' ((run_t hf).trans hz))
noncomputable def f_r_closedAhead (m : gM) (a1 : Int32) : Int32 := (if (m 1 ((96 : Int32) + a1).toNatClampNeg) = (2 : Int32) then g_let (run (L_r_closedAhead_19 m a1) 400 (((0 : Int32), (0 : Int32)))) (fun z4 : Int32 × Int32 => z4.1) else (-1 : Int32))
noncomputable def o_r_closedAhead (m : gM) (a1 : Int32) : Prop := (vp_in ((96 : Int32) + a1) 364) ∧ ((if (m 1 ((96 : Int32) + a1).toNatClampNeg) = (2 : Int32) then (rOk (L_r_closedAhead_19 m a1) (K_r_closedAhead_19 m a1) 400 (((0 : Int32), (0 : Int32)))) ∧ (g_let (run (L_r_closedAhead_19 m a1) 400 (((0 : Int32), (0 : Int32)))) (fun z4 : Int32 × Int32 => True)) else True))
set_option maxRecDepth 100000 in
set_option maxHeartbeats 4000000 in
theorem c_r_closedAhead (l : Launch) (G : gG) (q : Nat → Nat) (m : gM) (h : gN) (a1 : Int32) (hok : o_r_closedAhead m a1) : gMi l yX3_closedAhead wsX3_closedAhead rm_r_closedAhead G shM q m h [.ref (q 0), .int a1] m h (f_r_closedAhead m a1) := by
  intro sz
  refine g_met (cc := cX3_closedAhead) (maxL := 4) (ret := (some .int)) (own := RX3) (Qc := fun sz => gQi G shM q m h sz (f_r_closedAhead m a1)) (by decide) rfl rfl (Nat.le_of_ble_eq_true rfl) (fun p e s m9 below meth c C hq hr => ?_)
  refine x_lv (lv' := [(0, .ref (q 0)), (1, .int a1)]) [0, 1] rfl ?_
  have hf := f_r_closedAhead.eq_1 m a1
  have hok := Eq.mp (o_r_closedAhead.eq_1 m a1) hok
  refine x_aload_n C dX3_closedAhead_0 rfl 0 rfl ?_
  refine x_get (v := .ref (q 1)) C in_X3_closedAhead_3 0 rfl rfl 0 (by decide) k_X3_closedAhead_7 rfl rfl dX3_closedAhead_1 ?_
  refine x_bipush (v := (96 : Int32)) C dX3_closedAhead_4 (by decide) ?_
  refine x_iload_n C dX3_closedAhead_6 rfl 1 rfl ?_
  refine x_iadd C dX3_closedAhead_7 ?_
  have s1 := And.left hok
  have hok := And.right hok
  refine x_iald (n := 364) (v := (m 1 ((96 : Int32) + a1).toNatClampNeg)) C 1 rfl s1 rfl dX3_closedAhead_8 ?_
  refine x_iconst (v := (2 : Int32)) C dX3_closedAhead_9 (by decide) ?_
  refine x_icmp_eq (tgt := 15) C dX3_closedAhead_10 (by decide) (fun c2 => ?_) (fun c2 => ?_)
  · have hf := hf.trans (if_pos c2)
    have hok := g_ip c2 hok
    refine x_iconst (v := (0 : Int32)) C dX3_closedAhead_15 (by decide) ?_
    refine x_istore_n (lv' := [(0, .ref (q 0)), (1, .int a1), (2, .int (0 : Int32))]) C dX3_closedAhead_16 rfl (by decide) [1, 2, 0] rfl ?_
    refine x_iconst (v := (0 : Int32)) C dX3_closedAhead_17 (by decide) ?_
    refine x_istore_n (lv' := [(0, .ref (q 0)), (1, .int a1), (2, .int (0 : Int32)), (3, .int (0 : Int32))]) C dX3_closedAhead_18 rfl (by decide) [1, 2, 3, 0] rfl ?_
    have s3 := And.left hok
    have hok := And.right hok
    refine lp_r_closedAhead_19 C hq m h a1 400 (((0 : Int32), (0 : Int32))) s3 (fun z4 hz4 => ?_)
    have hf := hf.trans (g_let_eq hz4.symm)
    have hok := g_let_p hz4.symm hok
    refine x_iload_n C dX3_closedAhead_75 rfl 2 rfl ?_
    exact g_iret C hr rfl dX3_closedAhead_76 hf.symm rfl rfl
  · have hf := hf.trans (if_neg c2)
    have hok := g_in c2 hok
    refine x_iconst (v := (-1 : Int32)) C dX3_closedAhead_13 (by decide) ?_
    exact g_iret C hr rfl dX3_closedAhead_14 hf.symm rfl rfl
set_option maxRecDepth 20000 in
theorem in_X3_unlikeHints_3 : ∀ w ∈ u_ws RX3 TX3 12, w ∈ wsX3_unlikeHints := by decide +kernel
set_option maxRecDepth 20000 in
theorem k_X3_unlikeHints_7 : Cond.fieldLink RX3 7 "HintedPagesModel" "now" "[I" ∈ wsX3_unlikeHints := by decide +kernel
abbrev rm_r_unlikeHints : Room := { frames := 2, cells := 0, slots := 0, locals := 43 }
noncomputable def L_r_unlikeHints_7 (m : gM) (x1 : Int32) (z : Int32 × Int32) : Bool × (Int32 × Int32) := (if (((8 : Int32) * x1) + (8 : Int32)) ≤ z.2 then (false, (z.1, z.2)) else (if (f_r_isValid (g_sel [1] m) z.2) = 0 then g_let ((z.1 ||| (0 : Int32))) (fun z4 : Int32 => g_let ((z.2 + (1 : Int32))) (fun z5 : Int32 => (true, (z4, z5)))) else g_let ((z.1 ||| ((1 : Int32) <<< ((f_r_of (g_sel [1] m) (m 1 z.2.toNatClampNeg) (1 : Int32)) &&& 31)))) (fun z8 : Int32 => g_let ((z.2 + (1 : Int32))) (fun z9 : Int32 => (true, (z8, z9))))))
noncomputable def K_r_unlikeHints_7 (m : gM) (x1 : Int32) (z : Int32 × Int32) : Prop := (if (((8 : Int32) * x1) + (8 : Int32)) ≤ z.2 then True else (o_r_isValid (g_sel [1] m) z.2) ∧ ((if (f_r_isValid (g_sel [1] m) z.2) = 0 then g_let ((z.1 ||| (0 : Int32))) (fun z4 : Int32 => g_let ((z.2 + (1 : Int32))) (fun z5 : Int32 => True)) else (vp_in z.2 364) ∧ ((o_r_of (g_sel [1] m) (m 1 z.2.toNatClampNeg) (1 : Int32)) ∧ (g_let ((z.1 ||| ((1 : Int32) <<< ((f_r_of (g_sel [1] m) (m 1 z.2.toNatClampNeg) (1 : Int32)) &&& 31)))) (fun z8 : Int32 => g_let ((z.2 + (1 : Int32))) (fun z9 : Int32 => True)))))))
set_option maxRecDepth 100000 in
set_option maxHeartbeats 4000000 in
theorem lp_r_unlikeHints_7 {p : Program} {l : Launch} {e : Env} {s : State} {m9 : MethodId} {args : Array Value} {below : List Frame} {meth : Method} {c : Code} {G : gG} {A : Nat → Prop} {Q : State → Prop} {q : Nat → Nat} (C : xC p s m9 args meth c G A 4 cX3_unlikeHints RX3 wsX3_unlikeHints) (hq : gD A q shM.length) (m : gM) (h : gN) (x1 : Int32) : ∀ (n : Nat) (z : Int32 × Int32), rOk (L_r_unlikeHints_7 m x1) (K_r_unlikeHints_7 m x1) n z → (∀ z' : Int32 × Int32, run (L_r_unlikeHints_7 m x1) n z = z' → xJ p l e rm_r_unlikeHints s m9 args below meth c G A 4 Q 0 0 shM q m h [(0, .ref (q 0)), (1, .int x1), (2, .int z'.1), (3, .int z'.2)] [] 58) → xJ p l e rm_r_unlikeHints s m9 args below meth c G A 4 Q 0 0 shM q m h [(0, .ref (q 0)), (1, .int x1), (2, .int z.1), (3, .int z.2)] [] 7 := by
  intro n
  induction n with
  | zero =>
    intro z hok _
    exact rOk_0 hok
  | succ n ih =>
    intro z hok K0
    have hnx := rOk_2 hok
    have hok := rOk_1 hok
    have hf := L_r_unlikeHints_7.eq_1 m x1 z
    have hok := Eq.mp (K_r_unlikeHints_7.eq_1 m x1 z) hok
    refine x_iload_n C dX3_unlikeHints_7 rfl 3 rfl ?_
    refine x_bipush (v := (8 : Int32)) C dX3_unlikeHints_8 (by decide) ?_
    refine x_iload_n C dX3_unlikeHints_10 rfl 1 rfl ?_
    refine x_imul C dX3_unlikeHints_11 ?_
    refine x_bipush (v := (8 : Int32)) C dX3_unlikeHints_12 (by decide) ?_
    refine x_iadd C dX3_unlikeHints_14 ?_
    refine x_icmp_ge (tgt := 58) C dX3_unlikeHints_15 (by decide) (fun c1 => ?_) (fun c1 => ?_)
    · have hf := hf.trans (if_pos c1)
      have hok := g_ip c1 hok
      exact K0 ((z.1, z.2)) (run_f hf)
    · have hf := hf.trans (if_neg c1)
      have hok := g_in c1 hok
      refine x_iload_n C dX3_unlikeHints_18 rfl 2 rfl ?_
      refine x_aload_n C dX3_unlikeHints_19 rfl 0 rfl ?_
      refine x_get (v := .ref (q 1)) C in_X3_unlikeHints_3 0 rfl rfl 0 (by decide) k_X3_unlikeHints_7 rfl rfl dX3_unlikeHints_20 ?_
      refine x_iload_n C dX3_unlikeHints_23 rfl 3 rfl ?_
      have s2 := And.left hok
      have hok := And.right hok
      refine x_callSi (n := 2) C hq (gFr_pure gs_M_r_1) (c_r_isValid l G (g_sel [1] q) (g_sel [1] m) (g_sel [1] h) z.2 s2) (va_cwS 2 C.2.2.2.2.2.1 gX3_unlikeHints_X3_isValid rfl rfl rfl (by decide +kernel) ⟨Nat.le_of_ble_eq_true rfl, Nat.le_of_ble_eq_true rfl⟩) rfl rfl (Nat.le_of_ble_eq_true rfl) dX3_unlikeHints_24 (Nat.zero_le _) (Nat.zero_le _) ?_
      refine x_if_eq (tgt := 49) C dX3_unlikeHints_27 (by decide) (fun c3 => ?_) (fun c3 => ?_)
      · have hf := hf.trans (if_pos c3)
        have hok := g_ip c3 hok
        refine x_iconst (v := (0 : Int32)) C dX3_unlikeHints_49 (by decide) ?_
        refine x_ior C dX3_unlikeHints_50 ?_
        obtain ⟨z4, hz4⟩ : ∃ y9 : Int32, y9 = (z.1 ||| (0 : Int32)) := ⟨_, rfl⟩
        have hf := hf.trans (g_let_eq hz4)
        have hok := g_let_p hz4 hok
        refine x_topi hz4 ?_
        refine x_istore_n (lv' := [(0, .ref (q 0)), (1, .int x1), (2, .int z4), (3, .int z.2)]) C dX3_unlikeHints_51 rfl (by decide) [1, 2, 0, 3] rfl ?_
        obtain ⟨z5, hz5⟩ : ∃ y9 : Int32, y9 = (z.2 + (1 : Int32)) := ⟨_, rfl⟩
        have hf := hf.trans (g_let_eq hz5)
        have hok := g_let_p hz5 hok
        refine x_iinc (v := z5) (lv' := [(0, .ref (q 0)), (1, .int x1), (2, .int z4), (3, .int z5)]) C dX3_unlikeHints_52 3 rfl hz5.symm (by decide) [1, 2, 3, 0] rfl ?_
        refine x_goto (tgt := 7) C dX3_unlikeHints_55 (by decide) ?_
        exact ih ((z4, z5)) (rOk_t hnx hf) (fun z' hz => K0 z' ((run_t hf).trans hz))
      · have hf := hf.trans (if_neg c3)
        have hok := g_in c3 hok
        refine x_iconst (v := (1 : Int32)) C dX3_unlikeHints_30 (by decide) ?_
        refine x_aload_n C dX3_unlikeHints_31 rfl 0 rfl ?_
        refine x_get (v := .ref (q 1)) C in_X3_unlikeHints_3 0 rfl rfl 0 (by decide) k_X3_unlikeHints_7 rfl rfl dX3_unlikeHints_32 ?_
        refine x_aload_n C dX3_unlikeHints_35 rfl 0 rfl ?_
        refine x_get (v := .ref (q 1)) C in_X3_unlikeHints_3 0 rfl rfl 0 (by decide) k_X3_unlikeHints_7 rfl rfl dX3_unlikeHints_36 ?_
        refine x_iload_n C dX3_unlikeHints_39 rfl 3 rfl ?_
        have s6 := And.left hok
        have hok := And.right hok
        refine x_iald (n := 364) (v := (m 1 z.2.toNatClampNeg)) C 1 rfl s6 rfl dX3_unlikeHints_40 ?_
        refine x_iconst (v := (1 : Int32)) C dX3_unlikeHints_41 (by decide) ?_
        have s7 := And.left hok
        have hok := And.right hok
        refine x_callSi (n := 3) C hq (gFr_pure gs_M_r_1) (c_r_of l G (g_sel [1] q) (g_sel [1] m) (g_sel [1] h) (m 1 z.2.toNatClampNeg) (1 : Int32) s7) (va_cwS 3 C.2.2.2.2.2.1 gX3_unlikeHints_X3_of rfl rfl rfl (by decide +kernel) ⟨Nat.le_of_ble_eq_true rfl, Nat.le_of_ble_eq_true rfl⟩) rfl rfl (Nat.le_of_ble_eq_true rfl) dX3_unlikeHints_42 (Nat.zero_le _) (Nat.zero_le _) ?_
        refine x_ishl C dX3_unlikeHints_45 ?_
        refine x_goto (tgt := 50) C dX3_unlikeHints_46 (by decide) ?_
        refine x_ior C dX3_unlikeHints_50 ?_
        obtain ⟨z8, hz8⟩ : ∃ y9 : Int32, y9 = (z.1 ||| ((1 : Int32) <<< ((f_r_of (g_sel [1] m) (m 1 z.2.toNatClampNeg) (1 : Int32)) &&& 31))) := ⟨_, rfl⟩
        have hf := hf.trans (g_let_eq hz8)
        have hok := g_let_p hz8 hok
        refine x_topi hz8 ?_
        refine x_istore_n (lv' := [(0, .ref (q 0)), (1, .int x1), (2, .int z8), (3, .int z.2)]) C dX3_unlikeHints_51 rfl (by decide) [1, 2, 0, 3] rfl ?_
        obtain ⟨z9, hz9⟩ : ∃ y9 : Int32, y9 = (z.2 + (1 : Int32)) := ⟨_, rfl⟩
        have hf := hf.trans (g_let_eq hz9)
        have hok := g_let_p hz9 hok
        refine x_iinc (v := z9) (lv' := [(0, .ref (q 0)), (1, .int x1), (2, .int z8), (3, .int z9)]) C dX3_unlikeHints_52 3 rfl hz9.symm (by decide) [1, 2, 3, 0] rfl ?_
        refine x_goto (tgt := 7) C dX3_unlikeHints_55 (by decide) ?_
        exact ih ((z8, z9)) (rOk_t hnx hf) (fun z' hz => K0 z' ((run_t hf).trans hz))
noncomputable def f_r_unlikeHints (m : gM) (a1 : Int32) : Int32 := g_let (((8 : Int32) * a1)) (fun z1 : Int32 => g_let (run (L_r_unlikeHints_7 m a1) 400 (((0 : Int32), z1))) (fun z3 : Int32 × Int32 => ((((z3.1 &&& (1 : Int32)) + ((z3.1 >>> ((1 : Int32) &&& 31)) &&& (1 : Int32))) + ((z3.1 >>> ((2 : Int32) &&& 31)) &&& (1 : Int32))) + ((z3.1 >>> ((3 : Int32) &&& 31)) &&& (1 : Int32)))))
noncomputable def o_r_unlikeHints (m : gM) (a1 : Int32) : Prop := g_let (((8 : Int32) * a1)) (fun z1 : Int32 => (rOk (L_r_unlikeHints_7 m a1) (K_r_unlikeHints_7 m a1) 400 (((0 : Int32), z1))) ∧ (g_let (run (L_r_unlikeHints_7 m a1) 400 (((0 : Int32), z1))) (fun z3 : Int32 × Int32 => True)))
set_option maxRecDepth 100000 in
set_option maxHeartbeats 4000000 in
theorem c_r_unlikeHints (l : Launch) (G : gG) (q : Nat → Nat) (m : gM) (h : gN) (a1 : Int32) (hok : o_r_unlikeHints m a1) : gMi l yX3_unlikeHints wsX3_unlikeHints rm_r_unlikeHints G shM q m h [.ref (q 0), .int a1] m h (f_r_unlikeHints m a1) := by
  intro sz
  refine g_met (cc := cX3_unlikeHints) (maxL := 4) (ret := (some .int)) (own := RX3) (Qc := fun sz => gQi G shM q m h sz (f_r_unlikeHints m a1)) (by decide) rfl rfl (Nat.le_of_ble_eq_true rfl) (fun p e s m9 below meth c C hq hr => ?_)
  refine x_lv (lv' := [(0, .ref (q 0)), (1, .int a1)]) [0, 1] rfl ?_
  have hf := f_r_unlikeHints.eq_1 m a1
  have hok := Eq.mp (o_r_unlikeHints.eq_1 m a1) hok
  refine x_iconst (v := (0 : Int32)) C dX3_unlikeHints_0 (by decide) ?_
  refine x_istore_n (lv' := [(0, .ref (q 0)), (1, .int a1), (2, .int (0 : Int32))]) C dX3_unlikeHints_1 rfl (by decide) [1, 2, 0] rfl ?_
  refine x_bipush (v := (8 : Int32)) C dX3_unlikeHints_2 (by decide) ?_
  refine x_iload_n C dX3_unlikeHints_4 rfl 1 rfl ?_
  refine x_imul C dX3_unlikeHints_5 ?_
  obtain ⟨z1, hz1⟩ : ∃ y9 : Int32, y9 = ((8 : Int32) * a1) := ⟨_, rfl⟩
  have hf := hf.trans (g_let_eq hz1)
  have hok := g_let_p hz1 hok
  refine x_topi hz1 ?_
  refine x_istore_n (lv' := [(0, .ref (q 0)), (1, .int a1), (2, .int (0 : Int32)), (3, .int z1)]) C dX3_unlikeHints_6 rfl (by decide) [1, 2, 3, 0] rfl ?_
  have s2 := And.left hok
  have hok := And.right hok
  refine lp_r_unlikeHints_7 C hq m h a1 400 (((0 : Int32), z1)) s2 (fun z3 hz3 => ?_)
  have hf := hf.trans (g_let_eq hz3.symm)
  have hok := g_let_p hz3.symm hok
  refine x_iload_n C dX3_unlikeHints_58 rfl 2 rfl ?_
  refine x_iconst (v := (1 : Int32)) C dX3_unlikeHints_59 (by decide) ?_
  refine x_iand C dX3_unlikeHints_60 ?_
  refine x_iload_n C dX3_unlikeHints_61 rfl 2 rfl ?_
  refine x_iconst (v := (1 : Int32)) C dX3_unlikeHints_62 (by decide) ?_
  refine x_ishr C dX3_unlikeHints_63 ?_
  refine x_iconst (v := (1 : Int32)) C dX3_unlikeHints_64 (by decide) ?_
  refine x_iand C dX3_unlikeHints_65 ?_
  refine x_iadd C dX3_unlikeHints_66 ?_
  refine x_iload_n C dX3_unlikeHints_67 rfl 2 rfl ?_
  refine x_iconst (v := (2 : Int32)) C dX3_unlikeHints_68 (by decide) ?_
  refine x_ishr C dX3_unlikeHints_69 ?_
  refine x_iconst (v := (1 : Int32)) C dX3_unlikeHints_70 (by decide) ?_
  refine x_iand C dX3_unlikeHints_71 ?_
  refine x_iadd C dX3_unlikeHints_72 ?_
  refine x_iload_n C dX3_unlikeHints_73 rfl 2 rfl ?_
  refine x_iconst (v := (3 : Int32)) C dX3_unlikeHints_74 (by decide) ?_
  refine x_ishr C dX3_unlikeHints_75 ?_
  refine x_iconst (v := (1 : Int32)) C dX3_unlikeHints_76 (by decide) ?_
  refine x_iand C dX3_unlikeHints_77 ?_
  refine x_iadd C dX3_unlikeHints_78 ?_
  exact g_iret C hr rfl dX3_unlikeHints_79 hf.symm rfl rfl
set_option maxRecDepth 20000 in
theorem in_X3_ofBlock_3 : ∀ w ∈ u_ws RX3 TX3 12, w ∈ wsX3_ofBlock := by decide +kernel
set_option maxRecDepth 20000 in
theorem k_X3_ofBlock_7 : Cond.fieldLink RX3 7 "HintedPagesModel" "now" "[I" ∈ wsX3_ofBlock := by decide +kernel
abbrev rm_r_ofBlock : Room := { frames := 3, cells := 0, slots := 0, locals := 68 }
noncomputable def f_r_ofBlock (m : gM) (a1 : Int32) (a2 : Int32) : Int32 := (if a2 = (0 : Int32) then (m 1 ((96 : Int32) + a1).toNatClampNeg) else (if a2 = (1 : Int32) then (m 1 ((108 : Int32) + a1).toNatClampNeg) else (if a2 = (2 : Int32) then (f_r_slots (g_sel [1] m) a1 (a2 - (2 : Int32))) else (if a2 = (3 : Int32) then (f_r_slots (g_sel [1] m) a1 (a2 - (2 : Int32))) else (if a2 = (4 : Int32) then (f_r_slots (g_sel [1] m) a1 (a2 - (2 : Int32))) else (if a2 = (5 : Int32) then (m 1 ((120 : Int32) + a1).toNatClampNeg) else (if a2 = (6 : Int32) then (f_r_closedAhead m a1) else (f_r_unlikeHints m a1))))))))
noncomputable def o_r_ofBlock (m : gM) (a1 : Int32) (a2 : Int32) : Prop := (if a2 = (0 : Int32) then (vp_in ((96 : Int32) + a1) 364) ∧ (True) else (if a2 = (1 : Int32) then (vp_in ((108 : Int32) + a1) 364) ∧ (True) else (if a2 = (2 : Int32) then (o_r_slots (g_sel [1] m) a1 (a2 - (2 : Int32))) ∧ (True) else (if a2 = (3 : Int32) then (o_r_slots (g_sel [1] m) a1 (a2 - (2 : Int32))) ∧ (True) else (if a2 = (4 : Int32) then (o_r_slots (g_sel [1] m) a1 (a2 - (2 : Int32))) ∧ (True) else (if a2 = (5 : Int32) then (vp_in ((120 : Int32) + a1) 364) ∧ (True) else (if a2 = (6 : Int32) then (o_r_closedAhead m a1) ∧ (True) else (o_r_unlikeHints m a1) ∧ (True))))))))
set_option maxRecDepth 100000 in
set_option maxHeartbeats 4000000 in
theorem c_r_ofBlock (l : Launch) (G : gG) (q : Nat → Nat) (m : gM) (h : gN) (a1 : Int32) (a2 : Int32) (hok : o_r_ofBlock m a1 a2) : gMi l yX3_ofBlock wsX3_ofBlock rm_r_ofBlock G shM q m h [.ref (q 0), .int a1, .int a2] m h (f_r_ofBlock m a1 a2) := by
  intro sz
  refine g_met (cc := cX3_ofBlock) (maxL := 3) (ret := (some .int)) (own := RX3) (Qc := fun sz => gQi G shM q m h sz (f_r_ofBlock m a1 a2)) (by decide) rfl rfl (Nat.le_of_ble_eq_true rfl) (fun p e s m9 below meth c C hq hr => ?_)
  refine x_lv (lv' := [(0, .ref (q 0)), (1, .int a1), (2, .int a2)]) [0, 1, 2] rfl ?_
  have hf := f_r_ofBlock.eq_1 m a1 a2
  have hok := Eq.mp (o_r_ofBlock.eq_1 m a1 a2) hok
  refine x_iload_n C dX3_ofBlock_0 rfl 2 rfl ?_
  by_cases c1 : a2 = (0 : Int32)
  · have hf := hf.trans (if_pos c1)
    have hok := g_ip c1 hok
    refine x_tin (tgt := 44) C dX3_ofBlock_1 c1 (by decide) (by decide) rfl (by decide) ?_
    refine x_aload_n C dX3_ofBlock_44 rfl 0 rfl ?_
    refine x_get (v := .ref (q 1)) C in_X3_ofBlock_3 0 rfl rfl 0 (by decide) k_X3_ofBlock_7 rfl rfl dX3_ofBlock_45 ?_
    refine x_bipush (v := (96 : Int32)) C dX3_ofBlock_48 (by decide) ?_
    refine x_iload_n C dX3_ofBlock_50 rfl 1 rfl ?_
    refine x_iadd C dX3_ofBlock_51 ?_
    have s2 := And.left hok
    have hok := And.right hok
    refine x_iald (n := 364) (v := (m 1 ((96 : Int32) + a1).toNatClampNeg)) C 1 rfl s2 rfl dX3_ofBlock_52 ?_
    exact g_iret C hr rfl dX3_ofBlock_53 hf.symm rfl rfl
  · have hf := hf.trans (if_neg c1)
    have hok := g_in c1 hok
    by_cases c3 : a2 = (1 : Int32)
    · have hf := hf.trans (if_pos c3)
      have hok := g_ip c3 hok
      refine x_tin (tgt := 54) C dX3_ofBlock_1 c3 (by decide) (by decide) rfl (by decide) ?_
      refine x_aload_n C dX3_ofBlock_54 rfl 0 rfl ?_
      refine x_get (v := .ref (q 1)) C in_X3_ofBlock_3 0 rfl rfl 0 (by decide) k_X3_ofBlock_7 rfl rfl dX3_ofBlock_55 ?_
      refine x_bipush (v := (108 : Int32)) C dX3_ofBlock_58 (by decide) ?_
      refine x_iload_n C dX3_ofBlock_60 rfl 1 rfl ?_
      refine x_iadd C dX3_ofBlock_61 ?_
      have s4 := And.left hok
      have hok := And.right hok
      refine x_iald (n := 364) (v := (m 1 ((108 : Int32) + a1).toNatClampNeg)) C 1 rfl s4 rfl dX3_ofBlock_62 ?_
      exact g_iret C hr rfl dX3_ofBlock_63 hf.symm rfl rfl
    · have hf := hf.trans (if_neg c3)
      have hok := g_in c3 hok
      by_cases c5 : a2 = (2 : Int32)
      · have hf := hf.trans (if_pos c5)
        have hok := g_ip c5 hok
        refine x_tin (tgt := 64) C dX3_ofBlock_1 c5 (by decide) (by decide) rfl (by decide) ?_
        refine x_aload_n C dX3_ofBlock_64 rfl 0 rfl ?_
        refine x_get (v := .ref (q 1)) C in_X3_ofBlock_3 0 rfl rfl 0 (by decide) k_X3_ofBlock_7 rfl rfl dX3_ofBlock_65 ?_
        refine x_iload_n C dX3_ofBlock_68 rfl 1 rfl ?_
        refine x_iload_n C dX3_ofBlock_69 rfl 2 rfl ?_
        refine x_iconst (v := (2 : Int32)) C dX3_ofBlock_70 (by decide) ?_
        refine x_isub C dX3_ofBlock_71 ?_
        have s6 := And.left hok
        have hok := And.right hok
        refine x_callSi (n := 3) C hq (gFr_pure gs_M_r_1) (c_r_slots l G (g_sel [1] q) (g_sel [1] m) (g_sel [1] h) a1 (a2 - (2 : Int32)) s6) (va_cwS 3 C.2.2.2.2.2.1 gX3_ofBlock_X3_slots rfl rfl rfl (by decide +kernel) ⟨Nat.le_of_ble_eq_true rfl, Nat.le_of_ble_eq_true rfl⟩) rfl rfl (Nat.le_of_ble_eq_true rfl) dX3_ofBlock_72 (Nat.zero_le _) (Nat.zero_le _) ?_
        exact g_iret C hr rfl dX3_ofBlock_75 hf.symm rfl rfl
      · have hf := hf.trans (if_neg c5)
        have hok := g_in c5 hok
        by_cases c7 : a2 = (3 : Int32)
        · have hf := hf.trans (if_pos c7)
          have hok := g_ip c7 hok
          refine x_tin (tgt := 64) C dX3_ofBlock_1 c7 (by decide) (by decide) rfl (by decide) ?_
          refine x_aload_n C dX3_ofBlock_64 rfl 0 rfl ?_
          refine x_get (v := .ref (q 1)) C in_X3_ofBlock_3 0 rfl rfl 0 (by decide) k_X3_ofBlock_7 rfl rfl dX3_ofBlock_65 ?_
          refine x_iload_n C dX3_ofBlock_68 rfl 1 rfl ?_
          refine x_iload_n C dX3_ofBlock_69 rfl 2 rfl ?_
          refine x_iconst (v := (2 : Int32)) C dX3_ofBlock_70 (by decide) ?_
          refine x_isub C dX3_ofBlock_71 ?_
          have s8 := And.left hok
          have hok := And.right hok
          refine x_callSi (n := 3) C hq (gFr_pure gs_M_r_1) (c_r_slots l G (g_sel [1] q) (g_sel [1] m) (g_sel [1] h) a1 (a2 - (2 : Int32)) s8) (va_cwS 3 C.2.2.2.2.2.1 gX3_ofBlock_X3_slots rfl rfl rfl (by decide +kernel) ⟨Nat.le_of_ble_eq_true rfl, Nat.le_of_ble_eq_true rfl⟩) rfl rfl (Nat.le_of_ble_eq_true rfl) dX3_ofBlock_72 (Nat.zero_le _) (Nat.zero_le _) ?_
          exact g_iret C hr rfl dX3_ofBlock_75 hf.symm rfl rfl
        · have hf := hf.trans (if_neg c7)
          have hok := g_in c7 hok
          by_cases c9 : a2 = (4 : Int32)
          · have hf := hf.trans (if_pos c9)
            have hok := g_ip c9 hok
            refine x_tin (tgt := 64) C dX3_ofBlock_1 c9 (by decide) (by decide) rfl (by decide) ?_
            refine x_aload_n C dX3_ofBlock_64 rfl 0 rfl ?_
            refine x_get (v := .ref (q 1)) C in_X3_ofBlock_3 0 rfl rfl 0 (by decide) k_X3_ofBlock_7 rfl rfl dX3_ofBlock_65 ?_
            refine x_iload_n C dX3_ofBlock_68 rfl 1 rfl ?_
            refine x_iload_n C dX3_ofBlock_69 rfl 2 rfl ?_
            refine x_iconst (v := (2 : Int32)) C dX3_ofBlock_70 (by decide) ?_
            refine x_isub C dX3_ofBlock_71 ?_
            have s10 := And.left hok
            have hok := And.right hok
            refine x_callSi (n := 3) C hq (gFr_pure gs_M_r_1) (c_r_slots l G (g_sel [1] q) (g_sel [1] m) (g_sel [1] h) a1 (a2 - (2 : Int32)) s10) (va_cwS 3 C.2.2.2.2.2.1 gX3_ofBlock_X3_slots rfl rfl rfl (by decide +kernel) ⟨Nat.le_of_ble_eq_true rfl, Nat.le_of_ble_eq_true rfl⟩) rfl rfl (Nat.le_of_ble_eq_true rfl) dX3_ofBlock_72 (Nat.zero_le _) (Nat.zero_le _) ?_
            exact g_iret C hr rfl dX3_ofBlock_75 hf.symm rfl rfl
          · have hf := hf.trans (if_neg c9)
            have hok := g_in c9 hok
            by_cases c11 : a2 = (5 : Int32)
            · have hf := hf.trans (if_pos c11)
              have hok := g_ip c11 hok
              refine x_tin (tgt := 76) C dX3_ofBlock_1 c11 (by decide) (by decide) rfl (by decide) ?_
              refine x_aload_n C dX3_ofBlock_76 rfl 0 rfl ?_
              refine x_get (v := .ref (q 1)) C in_X3_ofBlock_3 0 rfl rfl 0 (by decide) k_X3_ofBlock_7 rfl rfl dX3_ofBlock_77 ?_
              refine x_bipush (v := (120 : Int32)) C dX3_ofBlock_80 (by decide) ?_
              refine x_iload_n C dX3_ofBlock_82 rfl 1 rfl ?_
              refine x_iadd C dX3_ofBlock_83 ?_
              have s12 := And.left hok
              have hok := And.right hok
              refine x_iald (n := 364) (v := (m 1 ((120 : Int32) + a1).toNatClampNeg)) C 1 rfl s12 rfl dX3_ofBlock_84 ?_
              exact g_iret C hr rfl dX3_ofBlock_85 hf.symm rfl rfl
            · have hf := hf.trans (if_neg c11)
              have hok := g_in c11 hok
              by_cases c13 : a2 = (6 : Int32)
              · have hf := hf.trans (if_pos c13)
                have hok := g_ip c13 hok
                refine x_tin (tgt := 86) C dX3_ofBlock_1 c13 (by decide) (by decide) rfl (by decide) ?_
                refine x_aload_n C dX3_ofBlock_86 rfl 0 rfl ?_
                refine x_iload_n C dX3_ofBlock_87 rfl 1 rfl ?_
                have s14 := And.left hok
                have hok := And.right hok
                refine x_callVi (n := 1) C hq gFr_same (c_r_closedAhead l G q m h a1 s14) (cwV 1 C.2.2.2.2.2.1 gX3_ofBlock_X3_closedAhead rfl rfl rfl (by decide +kernel) ⟨Nat.le_of_ble_eq_true rfl, Nat.le_of_ble_eq_true rfl⟩) rfl rfl rfl rfl (Nat.le_of_ble_eq_true rfl) dX3_ofBlock_88 (Nat.zero_le _) (Nat.zero_le _) ?_
                exact g_iret C hr rfl dX3_ofBlock_91 hf.symm rfl rfl
              · have hf := hf.trans (if_neg c13)
                have hok := g_in c13 hok
                refine x_tout (tgt := 92) C dX3_ofBlock_1 (by have wc1 := lv_neT (a := 0) c1 rfl; have wc3 := lv_neT (a := 1) c3 rfl; have wc5 := lv_neT (a := 2) c5 rfl; have wc7 := lv_neT (a := 3) c7 rfl; have wc9 := lv_neT (a := 4) c9 rfl; have wc11 := lv_neT (a := 5) c11 rfl; have wc13 := lv_neT (a := 6) c13 rfl; omega) (by decide) ?_
                refine x_aload_n C dX3_ofBlock_92 rfl 0 rfl ?_
                refine x_iload_n C dX3_ofBlock_93 rfl 1 rfl ?_
                have s15 := And.left hok
                have hok := And.right hok
                refine x_callVi (n := 1) C hq gFr_same (c_r_unlikeHints l G q m h a1 s15) (cwV 1 C.2.2.2.2.2.1 gX3_ofBlock_X3_unlikeHints rfl rfl rfl (by decide +kernel) ⟨Nat.le_of_ble_eq_true rfl, Nat.le_of_ble_eq_true rfl⟩) rfl rfl rfl rfl (Nat.le_of_ble_eq_true rfl) dX3_ofBlock_94 (Nat.zero_le _) (Nat.zero_le _) ?_
                exact g_iret C hr rfl dX3_ofBlock_97 hf.symm rfl rfl
set_option maxRecDepth 20000 in
theorem in_X3_block_3 : ∀ w ∈ u_ws RX3 TX3 12, w ∈ wsX3_block := by decide +kernel
set_option maxRecDepth 20000 in
theorem k_X3_block_25 : Cond.fieldLink RX3 25 "HintedPagesModel" "thrown" "I" ∈ wsX3_block := by decide +kernel
abbrev rm_r_block : Room := { frames := 4, cells := 0, slots := 0, locals := 90 }
noncomputable def f_r_block (m : gM) (a1 : Int32) (a2 : Int32) : Int32 × gM := g_let (g_set m 0 (upd (m 0) 6 (0 : Int32))) (fun z1 : gM => (if (f_r_isBlock a1) = 0 then g_let (f_r_fails z1 (1 : Int32)) (fun z10 : Int32 × gM => (z10.1, z10.2)) else (if (f_r_in a2 (0 : Int32) (7 : Int32)) = 0 then g_let (f_r_fails z1 (2 : Int32)) (fun z7 : Int32 × gM => (z7.1, z7.2)) else ((f_r_ofBlock z1 a1 a2), z1))))
noncomputable def o_r_block (m : gM) (a1 : Int32) (a2 : Int32) : Prop := g_let (g_set m 0 (upd (m 0) 6 (0 : Int32))) (fun z1 : gM => (o_r_isBlock a1) ∧ ((if (f_r_isBlock a1) = 0 then (o_r_fails z1 (1 : Int32)) ∧ (g_let (f_r_fails z1 (1 : Int32)) (fun z10 : Int32 × gM => True)) else (o_r_in a2 (0 : Int32) (7 : Int32)) ∧ ((if (f_r_in a2 (0 : Int32) (7 : Int32)) = 0 then (o_r_fails z1 (2 : Int32)) ∧ (g_let (f_r_fails z1 (2 : Int32)) (fun z7 : Int32 × gM => True)) else (o_r_ofBlock z1 a1 a2) ∧ (True))))))
set_option maxRecDepth 100000 in
set_option maxHeartbeats 4000000 in
theorem c_r_block (l : Launch) (G : gG) (q : Nat → Nat) (m : gM) (h : gN) (a1 : Int32) (a2 : Int32) (hok : o_r_block m a1 a2) : gMi l yX3_block wsX3_block rm_r_block G shM q m h [.ref (q 0), .int a1, .int a2] ((f_r_block m a1 a2).2) h ((f_r_block m a1 a2).1) := by
  intro sz
  refine g_met (cc := cX3_block) (maxL := 3) (ret := (some .int)) (own := RX3) (Qc := fun sz => gQi G shM q ((f_r_block m a1 a2).2) h sz ((f_r_block m a1 a2).1)) (by decide) rfl rfl (Nat.le_of_ble_eq_true rfl) (fun p e s m9 below meth c C hq hr => ?_)
  refine x_lv (lv' := [(0, .ref (q 0)), (1, .int a1), (2, .int a2)]) [0, 1, 2] rfl ?_
  have hf := f_r_block.eq_1 m a1 a2
  have hok := Eq.mp (o_r_block.eq_1 m a1 a2) hok
  refine x_aload_n C dX3_block_0 rfl 0 rfl ?_
  refine x_iconst (v := (0 : Int32)) C dX3_block_1 (by decide) ?_
  obtain ⟨z1, hz1⟩ : ∃ y9 : gM, y9 = g_set m 0 (upd (m 0) 6 (0 : Int32)) := ⟨_, rfl⟩
  have hf := hf.trans (g_let_eq hz1)
  have hok := g_let_p hz1 hok
  refine x_puti (μ' := z1) (ty := .int) C hq tyX3 tyX3_ok nmX3 in_X3_block_3 0 rfl rfl 6 (by decide) k_X3_block_25 rfl (tyX3_ok 6 (by decide)) rfl rfl rfl hz1 dX3_block_2 ?_
  refine x_iload_n C dX3_block_5 rfl 1 rfl ?_
  have s2 := And.left hok
  have hok := And.right hok
  refine x_callSi (n := 1) C hq (gFr_pure gs_M_0_) (c_r_isBlock l G (g_sel [] q) (g_sel [] z1) (g_sel [] h) a1 s2) (va_cwS 1 C.2.2.2.2.2.1 gX3_block_X3_isBlock rfl rfl rfl (by decide +kernel) ⟨Nat.le_of_ble_eq_true rfl, Nat.le_of_ble_eq_true rfl⟩) rfl rfl (Nat.le_of_ble_eq_true rfl) dX3_block_6 (Nat.zero_le _) (Nat.zero_le _) ?_
  refine x_if_ne (tgt := 18) C dX3_block_9 (by decide) (fun c3 => ?_) (fun c3 => ?_)
  · have hf := hf.trans (if_neg c3)
    have hok := g_in c3 hok
    refine x_iload_n C dX3_block_18 rfl 2 rfl ?_
    refine x_iconst (v := (0 : Int32)) C dX3_block_19 (by decide) ?_
    refine x_bipush (v := (7 : Int32)) C dX3_block_20 (by decide) ?_
    have s4 := And.left hok
    have hok := And.right hok
    refine x_callSi (n := 3) C hq (gFr_pure gs_M_0_) (c_r_in l G (g_sel [] q) (g_sel [] z1) (g_sel [] h) a2 (0 : Int32) (7 : Int32) s4) (va_cwS 3 C.2.2.2.2.2.1 gX3_block_X3_in rfl rfl rfl (by decide +kernel) ⟨Nat.le_of_ble_eq_true rfl, Nat.le_of_ble_eq_true rfl⟩) rfl rfl (Nat.le_of_ble_eq_true rfl) dX3_block_22 (Nat.zero_le _) (Nat.zero_le _) ?_
    refine x_if_eq (tgt := 37) C dX3_block_25 (by decide) (fun c5 => ?_) (fun c5 => ?_)
    · have hf := hf.trans (if_pos c5)
      have hok := g_ip c5 hok
      refine x_aload_n C dX3_block_37 rfl 0 rfl ?_
      refine x_iconst (v := (2 : Int32)) C dX3_block_38 (by decide) ?_
      have s6 := And.left hok
      have hok := And.right hok
      obtain ⟨z7, hz7⟩ : ∃ y9 : Int32 × gM, y9 = f_r_fails z1 (2 : Int32) := ⟨_, rfl⟩
      have hf := hf.trans (g_let_eq hz7)
      have hok := g_let_p hz7 hok
      have hmz7 : gMi l yX3_fails wsX3_fails rm_r_fails G shM q z1 h [.ref (q 0), .int (2 : Int32)] z7.2 h z7.1 := by rw [hz7]; exact c_r_fails l G q z1 h (2 : Int32) s6
      refine x_callVi (n := 1) C hq gFr_same (hmz7) (cwV 1 C.2.2.2.2.2.1 gX3_block_X3_fails rfl rfl rfl (by decide +kernel) ⟨Nat.le_of_ble_eq_true rfl, Nat.le_of_ble_eq_true rfl⟩) rfl rfl rfl rfl (Nat.le_of_ble_eq_true rfl) dX3_block_39 (Nat.zero_le _) (Nat.zero_le _) ?_
      exact g_iret C hr rfl dX3_block_42 (congrArg (fun z => z.1) hf).symm (congrArg (fun z => z.2) hf).symm rfl
    · have hf := hf.trans (if_neg c5)
      have hok := g_in c5 hok
      refine x_aload_n C dX3_block_28 rfl 0 rfl ?_
      refine x_iload_n C dX3_block_29 rfl 1 rfl ?_
      refine x_iload_n C dX3_block_30 rfl 2 rfl ?_
      have s8 := And.left hok
      have hok := And.right hok
      refine x_callVi (n := 2) C hq gFr_same (c_r_ofBlock l G q z1 h a1 a2 s8) (cwV 2 C.2.2.2.2.2.1 gX3_block_X3_ofBlock rfl rfl rfl (by decide +kernel) ⟨Nat.le_of_ble_eq_true rfl, Nat.le_of_ble_eq_true rfl⟩) rfl rfl rfl rfl (Nat.le_of_ble_eq_true rfl) dX3_block_31 (Nat.zero_le _) (Nat.zero_le _) ?_
      refine x_goto (tgt := 42) C dX3_block_34 (by decide) ?_
      exact g_iret C hr rfl dX3_block_42 (congrArg (fun z => z.1) hf).symm (congrArg (fun z => z.2) hf).symm rfl
  · have hf := hf.trans (if_pos c3)
    have hok := g_ip c3 hok
    refine x_aload_n C dX3_block_12 rfl 0 rfl ?_
    refine x_iconst (v := (1 : Int32)) C dX3_block_13 (by decide) ?_
    have s9 := And.left hok
    have hok := And.right hok
    obtain ⟨z10, hz10⟩ : ∃ y9 : Int32 × gM, y9 = f_r_fails z1 (1 : Int32) := ⟨_, rfl⟩
    have hf := hf.trans (g_let_eq hz10)
    have hok := g_let_p hz10 hok
    have hmz10 : gMi l yX3_fails wsX3_fails rm_r_fails G shM q z1 h [.ref (q 0), .int (1 : Int32)] z10.2 h z10.1 := by rw [hz10]; exact c_r_fails l G q z1 h (1 : Int32) s9
    refine x_callVi (n := 1) C hq gFr_same (hmz10) (cwV 1 C.2.2.2.2.2.1 gX3_block_X3_fails rfl rfl rfl (by decide +kernel) ⟨Nat.le_of_ble_eq_true rfl, Nat.le_of_ble_eq_true rfl⟩) rfl rfl rfl rfl (Nat.le_of_ble_eq_true rfl) dX3_block_14 (Nat.zero_le _) (Nat.zero_le _) ?_
    exact g_iret C hr rfl dX3_block_17 (congrArg (fun z => z.1) hf).symm (congrArg (fun z => z.2) hf).symm rfl
set_option maxRecDepth 20000 in
theorem in_X3_slot_3 : ∀ w ∈ u_ws RX3 TX3 12, w ∈ wsX3_slot := by decide +kernel
set_option maxRecDepth 20000 in
theorem k_X3_slot_25 : Cond.fieldLink RX3 25 "HintedPagesModel" "thrown" "I" ∈ wsX3_slot := by decide +kernel
set_option maxRecDepth 20000 in
theorem k_X3_slot_7 : Cond.fieldLink RX3 7 "HintedPagesModel" "now" "[I" ∈ wsX3_slot := by decide +kernel
abbrev rm_r_slot : Room := { frames := 2, cells := 0, slots := 0, locals := 43 }
noncomputable def f_r_slot (m : gM) (a1 : Int32) (a2 : Int32) (a3 : Int32) : Int32 × gM := g_let (g_set m 0 (upd (m 0) 6 (0 : Int32))) (fun z1 : gM => (if (f_r_isBlock a1) = 0 then g_let (f_r_fails z1 (1 : Int32)) (fun z5 : Int32 × gM => (z5.1, z5.2)) else (if (f_r_in a2 (0 : Int32) (7 : Int32)) = 0 then g_let (f_r_fails z1 (1 : Int32)) (fun z15 : Int32 × gM => (z15.1, z15.2)) else g_let ((((8 : Int32) * a1) + a2)) (fun z8 : Int32 => (if a3 = 0 then ((z1 1 z8.toNatClampNeg), z1) else (if (f_r_isValid (g_sel [1] z1) z8) = 0 then ((-1 : Int32), z1) else ((z1 1 z8.toNatClampNeg), z1)))))))
noncomputable def o_r_slot (m : gM) (a1 : Int32) (a2 : Int32) (a3 : Int32) : Prop := g_let (g_set m 0 (upd (m 0) 6 (0 : Int32))) (fun z1 : gM => (o_r_isBlock a1) ∧ ((if (f_r_isBlock a1) = 0 then (o_r_fails z1 (1 : Int32)) ∧ (g_let (f_r_fails z1 (1 : Int32)) (fun z5 : Int32 × gM => True)) else (o_r_in a2 (0 : Int32) (7 : Int32)) ∧ ((if (f_r_in a2 (0 : Int32) (7 : Int32)) = 0 then (o_r_fails z1 (1 : Int32)) ∧ (g_let (f_r_fails z1 (1 : Int32)) (fun z15 : Int32 × gM => True)) else g_let ((((8 : Int32) * a1) + a2)) (fun z8 : Int32 => (if a3 = 0 then (vp_in z8 364) ∧ (True) else (o_r_isValid (g_sel [1] z1) z8) ∧ ((if (f_r_isValid (g_sel [1] z1) z8) = 0 then True else (vp_in z8 364) ∧ (True))))))))))
set_option maxRecDepth 100000 in
set_option maxHeartbeats 4000000 in
theorem c_r_slot (l : Launch) (G : gG) (q : Nat → Nat) (m : gM) (h : gN) (a1 : Int32) (a2 : Int32) (a3 : Int32) (hok : o_r_slot m a1 a2 a3) : gMi l yX3_slot wsX3_slot rm_r_slot G shM q m h [.ref (q 0), .int a1, .int a2, .int a3] ((f_r_slot m a1 a2 a3).2) h ((f_r_slot m a1 a2 a3).1) := by
  intro sz
  refine g_met (cc := cX3_slot) (maxL := 5) (ret := (some .int)) (own := RX3) (Qc := fun sz => gQi G shM q ((f_r_slot m a1 a2 a3).2) h sz ((f_r_slot m a1 a2 a3).1)) (by decide) rfl rfl (Nat.le_of_ble_eq_true rfl) (fun p e s m9 below meth c C hq hr => ?_)
  refine x_lv (lv' := [(0, .ref (q 0)), (1, .int a1), (2, .int a2), (3, .int a3)]) [0, 1, 2, 3] rfl ?_
  have hf := f_r_slot.eq_1 m a1 a2 a3
  have hok := Eq.mp (o_r_slot.eq_1 m a1 a2 a3) hok
  refine x_aload_n C dX3_slot_0 rfl 0 rfl ?_
  refine x_iconst (v := (0 : Int32)) C dX3_slot_1 (by decide) ?_
  obtain ⟨z1, hz1⟩ : ∃ y9 : gM, y9 = g_set m 0 (upd (m 0) 6 (0 : Int32)) := ⟨_, rfl⟩
  have hf := hf.trans (g_let_eq hz1)
  have hok := g_let_p hz1 hok
  refine x_puti (μ' := z1) (ty := .int) C hq tyX3 tyX3_ok nmX3 in_X3_slot_3 0 rfl rfl 6 (by decide) k_X3_slot_25 rfl (tyX3_ok 6 (by decide)) rfl rfl rfl hz1 dX3_slot_2 ?_
  refine x_iload_n C dX3_slot_5 rfl 1 rfl ?_
  have s2 := And.left hok
  have hok := And.right hok
  refine x_callSi (n := 1) C hq (gFr_pure gs_M_0_) (c_r_isBlock l G (g_sel [] q) (g_sel [] z1) (g_sel [] h) a1 s2) (va_cwS 1 C.2.2.2.2.2.1 gX3_slot_X3_isBlock rfl rfl rfl (by decide +kernel) ⟨Nat.le_of_ble_eq_true rfl, Nat.le_of_ble_eq_true rfl⟩) rfl rfl (Nat.le_of_ble_eq_true rfl) dX3_slot_6 (Nat.zero_le _) (Nat.zero_le _) ?_
  refine x_if_eq (tgt := 22) C dX3_slot_9 (by decide) (fun c3 => ?_) (fun c3 => ?_)
  · have hf := hf.trans (if_pos c3)
    have hok := g_ip c3 hok
    refine x_aload_n C dX3_slot_22 rfl 0 rfl ?_
    refine x_iconst (v := (1 : Int32)) C dX3_slot_23 (by decide) ?_
    have s4 := And.left hok
    have hok := And.right hok
    obtain ⟨z5, hz5⟩ : ∃ y9 : Int32 × gM, y9 = f_r_fails z1 (1 : Int32) := ⟨_, rfl⟩
    have hf := hf.trans (g_let_eq hz5)
    have hok := g_let_p hz5 hok
    have hmz5 : gMi l yX3_fails wsX3_fails rm_r_fails G shM q z1 h [.ref (q 0), .int (1 : Int32)] z5.2 h z5.1 := by rw [hz5]; exact c_r_fails l G q z1 h (1 : Int32) s4
    refine x_callVi (n := 1) C hq gFr_same (hmz5) (cwV 1 C.2.2.2.2.2.1 gX3_slot_X3_fails rfl rfl rfl (by decide +kernel) ⟨Nat.le_of_ble_eq_true rfl, Nat.le_of_ble_eq_true rfl⟩) rfl rfl rfl rfl (Nat.le_of_ble_eq_true rfl) dX3_slot_24 (Nat.zero_le _) (Nat.zero_le _) ?_
    exact g_iret C hr rfl dX3_slot_27 (congrArg (fun z => z.1) hf).symm (congrArg (fun z => z.2) hf).symm rfl
  · have hf := hf.trans (if_neg c3)
    have hok := g_in c3 hok
    refine x_iload_n C dX3_slot_12 rfl 2 rfl ?_
    refine x_iconst (v := (0 : Int32)) C dX3_slot_13 (by decide) ?_
    refine x_bipush (v := (7 : Int32)) C dX3_slot_14 (by decide) ?_
    have s6 := And.left hok
    have hok := And.right hok
    refine x_callSi (n := 3) C hq (gFr_pure gs_M_0_) (c_r_in l G (g_sel [] q) (g_sel [] z1) (g_sel [] h) a2 (0 : Int32) (7 : Int32) s6) (va_cwS 3 C.2.2.2.2.2.1 gX3_slot_X3_in rfl rfl rfl (by decide +kernel) ⟨Nat.le_of_ble_eq_true rfl, Nat.le_of_ble_eq_true rfl⟩) rfl rfl (Nat.le_of_ble_eq_true rfl) dX3_slot_16 (Nat.zero_le _) (Nat.zero_le _) ?_
    refine x_if_ne (tgt := 28) C dX3_slot_19 (by decide) (fun c7 => ?_) (fun c7 => ?_)
    · have hf := hf.trans (if_neg c7)
      have hok := g_in c7 hok
      refine x_bipush (v := (8 : Int32)) C dX3_slot_28 (by decide) ?_
      refine x_iload_n C dX3_slot_30 rfl 1 rfl ?_
      refine x_imul C dX3_slot_31 ?_
      refine x_iload_n C dX3_slot_32 rfl 2 rfl ?_
      refine x_iadd C dX3_slot_33 ?_
      obtain ⟨z8, hz8⟩ : ∃ y9 : Int32, y9 = (((8 : Int32) * a1) + a2) := ⟨_, rfl⟩
      have hf := hf.trans (g_let_eq hz8)
      have hok := g_let_p hz8 hok
      refine x_topi hz8 ?_
      refine x_istore (lv' := [(0, .ref (q 0)), (1, .int a1), (2, .int a2), (3, .int a3), (4, .int z8)]) C dX3_slot_34 (by decide) [1, 2, 3, 4, 0] rfl ?_
      refine x_iload_n C dX3_slot_36 rfl 3 rfl ?_
      refine x_if_eq (tgt := 56) C dX3_slot_37 (by decide) (fun c9 => ?_) (fun c9 => ?_)
      · have hf := hf.trans (if_pos c9)
        have hok := g_ip c9 hok
        refine x_aload_n C dX3_slot_56 rfl 0 rfl ?_
        refine x_get (v := .ref (q 1)) C in_X3_slot_3 0 rfl rfl 0 (by decide) k_X3_slot_7 rfl rfl dX3_slot_57 ?_
        refine x_iload C dX3_slot_60 4 rfl ?_
        have s10 := And.left hok
        have hok := And.right hok
        refine x_iald (n := 364) (v := (z1 1 z8.toNatClampNeg)) C 1 rfl s10 rfl dX3_slot_62 ?_
        exact g_iret C hr rfl dX3_slot_63 (congrArg (fun z => z.1) hf).symm (congrArg (fun z => z.2) hf).symm rfl
      · have hf := hf.trans (if_neg c9)
        have hok := g_in c9 hok
        refine x_aload_n C dX3_slot_40 rfl 0 rfl ?_
        refine x_get (v := .ref (q 1)) C in_X3_slot_3 0 rfl rfl 0 (by decide) k_X3_slot_7 rfl rfl dX3_slot_41 ?_
        refine x_iload C dX3_slot_44 4 rfl ?_
        have s11 := And.left hok
        have hok := And.right hok
        refine x_callSi (n := 2) C hq (gFr_pure gs_M_r_1) (c_r_isValid l G (g_sel [1] q) (g_sel [1] z1) (g_sel [1] h) z8 s11) (va_cwS 2 C.2.2.2.2.2.1 gX3_slot_X3_isValid rfl rfl rfl (by decide +kernel) ⟨Nat.le_of_ble_eq_true rfl, Nat.le_of_ble_eq_true rfl⟩) rfl rfl (Nat.le_of_ble_eq_true rfl) dX3_slot_46 (Nat.zero_le _) (Nat.zero_le _) ?_
        refine x_if_ne (tgt := 56) C dX3_slot_49 (by decide) (fun c12 => ?_) (fun c12 => ?_)
        · have hf := hf.trans (if_neg c12)
          have hok := g_in c12 hok
          refine x_aload_n C dX3_slot_56 rfl 0 rfl ?_
          refine x_get (v := .ref (q 1)) C in_X3_slot_3 0 rfl rfl 0 (by decide) k_X3_slot_7 rfl rfl dX3_slot_57 ?_
          refine x_iload C dX3_slot_60 4 rfl ?_
          have s13 := And.left hok
          have hok := And.right hok
          refine x_iald (n := 364) (v := (z1 1 z8.toNatClampNeg)) C 1 rfl s13 rfl dX3_slot_62 ?_
          exact g_iret C hr rfl dX3_slot_63 (congrArg (fun z => z.1) hf).symm (congrArg (fun z => z.2) hf).symm rfl
        · have hf := hf.trans (if_pos c12)
          have hok := g_ip c12 hok
          refine x_iconst (v := (-1 : Int32)) C dX3_slot_52 (by decide) ?_
          refine x_goto (tgt := 63) C dX3_slot_53 (by decide) ?_
          exact g_iret C hr rfl dX3_slot_63 (congrArg (fun z => z.1) hf).symm (congrArg (fun z => z.2) hf).symm rfl
    · have hf := hf.trans (if_pos c7)
      have hok := g_ip c7 hok
      refine x_aload_n C dX3_slot_22 rfl 0 rfl ?_
      refine x_iconst (v := (1 : Int32)) C dX3_slot_23 (by decide) ?_
      have s14 := And.left hok
      have hok := And.right hok
      obtain ⟨z15, hz15⟩ : ∃ y9 : Int32 × gM, y9 = f_r_fails z1 (1 : Int32) := ⟨_, rfl⟩
      have hf := hf.trans (g_let_eq hz15)
      have hok := g_let_p hz15 hok
      have hmz15 : gMi l yX3_fails wsX3_fails rm_r_fails G shM q z1 h [.ref (q 0), .int (1 : Int32)] z15.2 h z15.1 := by rw [hz15]; exact c_r_fails l G q z1 h (1 : Int32) s14
      refine x_callVi (n := 1) C hq gFr_same (hmz15) (cwV 1 C.2.2.2.2.2.1 gX3_slot_X3_fails rfl rfl rfl (by decide +kernel) ⟨Nat.le_of_ble_eq_true rfl, Nat.le_of_ble_eq_true rfl⟩) rfl rfl rfl rfl (Nat.le_of_ble_eq_true rfl) dX3_slot_24 (Nat.zero_le _) (Nat.zero_le _) ?_
      exact g_iret C hr rfl dX3_slot_27 (congrArg (fun z => z.1) hf).symm (congrArg (fun z => z.2) hf).symm rfl
set_option maxRecDepth 20000 in
theorem in_X3_withHint_3 : ∀ w ∈ u_ws RX3 TX3 12, w ∈ wsX3_withHint := by decide +kernel
set_option maxRecDepth 20000 in
theorem k_X3_withHint_7 : Cond.fieldLink RX3 7 "HintedPagesModel" "now" "[I" ∈ wsX3_withHint := by decide +kernel
abbrev rm_r_withHint : Room := { frames := 1, cells := 0, slots := 0, locals := 22 }
noncomputable def L_r_withHint_4 (m : gM) (x1 : Int32) (z : Int32 × Int32) : Bool × (Int32 × Int32) := (if (40 : Int32) ≤ z.2 then (false, (z.1, z.2)) else (if (f_r_of (g_sel [1] m) z.2 (1 : Int32)) = x1 then g_let ((z.1 + (1 : Int32))) (fun z6 : Int32 => g_let ((z.2 + (1 : Int32))) (fun z7 : Int32 => (true, (z6, z7)))) else g_let ((z.1 + (0 : Int32))) (fun z4 : Int32 => g_let ((z.2 + (1 : Int32))) (fun z5 : Int32 => (true, (z4, z5))))))
noncomputable def K_r_withHint_4 (m : gM) (x1 : Int32) (z : Int32 × Int32) : Prop := (if (40 : Int32) ≤ z.2 then True else (o_r_of (g_sel [1] m) z.2 (1 : Int32)) ∧ ((if (f_r_of (g_sel [1] m) z.2 (1 : Int32)) = x1 then g_let ((z.1 + (1 : Int32))) (fun z6 : Int32 => g_let ((z.2 + (1 : Int32))) (fun z7 : Int32 => True)) else g_let ((z.1 + (0 : Int32))) (fun z4 : Int32 => g_let ((z.2 + (1 : Int32))) (fun z5 : Int32 => True)))))
set_option maxRecDepth 100000 in
set_option maxHeartbeats 4000000 in
theorem lp_r_withHint_4 {p : Program} {l : Launch} {e : Env} {s : State} {m9 : MethodId} {args : Array Value} {below : List Frame} {meth : Method} {c : Code} {G : gG} {A : Nat → Prop} {Q : State → Prop} {q : Nat → Nat} (C : xC p s m9 args meth c G A 4 cX3_withHint RX3 wsX3_withHint) (hq : gD A q shM.length) (m : gM) (h : gN) (x1 : Int32) : ∀ (n : Nat) (z : Int32 × Int32), rOk (L_r_withHint_4 m x1) (K_r_withHint_4 m x1) n z → (∀ z' : Int32 × Int32, run (L_r_withHint_4 m x1) n z = z' → xJ p l e rm_r_withHint s m9 args below meth c G A 4 Q 0 0 shM q m h [(0, .ref (q 0)), (1, .int x1), (2, .int z'.1), (3, .int z'.2)] [] 37) → xJ p l e rm_r_withHint s m9 args below meth c G A 4 Q 0 0 shM q m h [(0, .ref (q 0)), (1, .int x1), (2, .int z.1), (3, .int z.2)] [] 4 := by
  intro n
  induction n with
  | zero =>
    intro z hok _
    exact rOk_0 hok
  | succ n ih =>
    intro z hok K0
    have hnx := rOk_2 hok
    have hok := rOk_1 hok
    have hf := L_r_withHint_4.eq_1 m x1 z
    have hok := Eq.mp (K_r_withHint_4.eq_1 m x1 z) hok
    refine x_iload_n C dX3_withHint_4 rfl 3 rfl ?_
    refine x_bipush (v := (40 : Int32)) C dX3_withHint_5 (by decide) ?_
    refine x_icmp_ge (tgt := 37) C dX3_withHint_7 (by decide) (fun c1 => ?_) (fun c1 => ?_)
    · have hf := hf.trans (if_pos c1)
      have hok := g_ip c1 hok
      exact K0 ((z.1, z.2)) (run_f hf)
    · have hf := hf.trans (if_neg c1)
      have hok := g_in c1 hok
      refine x_iload_n C dX3_withHint_10 rfl 2 rfl ?_
      refine x_aload_n C dX3_withHint_11 rfl 0 rfl ?_
      refine x_get (v := .ref (q 1)) C in_X3_withHint_3 0 rfl rfl 0 (by decide) k_X3_withHint_7 rfl rfl dX3_withHint_12 ?_
      refine x_iload_n C dX3_withHint_15 rfl 3 rfl ?_
      refine x_iconst (v := (1 : Int32)) C dX3_withHint_16 (by decide) ?_
      have s2 := And.left hok
      have hok := And.right hok
      refine x_callSi (n := 3) C hq (gFr_pure gs_M_r_1) (c_r_of l G (g_sel [1] q) (g_sel [1] m) (g_sel [1] h) z.2 (1 : Int32) s2) (va_cwS 3 C.2.2.2.2.2.1 gX3_withHint_X3_of rfl rfl rfl (by decide +kernel) ⟨Nat.le_of_ble_eq_true rfl, Nat.le_of_ble_eq_true rfl⟩) rfl rfl (Nat.le_of_ble_eq_true rfl) dX3_withHint_17 (Nat.zero_le _) (Nat.zero_le _) ?_
      refine x_iload_n C dX3_withHint_20 rfl 1 rfl ?_
      refine x_icmp_ne (tgt := 28) C dX3_withHint_21 (by decide) (fun c3 => ?_) (fun c3 => ?_)
      · have hf := hf.trans (if_neg c3)
        have hok := g_in c3 hok
        refine x_iconst (v := (0 : Int32)) C dX3_withHint_28 (by decide) ?_
        refine x_iadd C dX3_withHint_29 ?_
        obtain ⟨z4, hz4⟩ : ∃ y9 : Int32, y9 = (z.1 + (0 : Int32)) := ⟨_, rfl⟩
        have hf := hf.trans (g_let_eq hz4)
        have hok := g_let_p hz4 hok
        refine x_topi hz4 ?_
        refine x_istore_n (lv' := [(0, .ref (q 0)), (1, .int x1), (2, .int z4), (3, .int z.2)]) C dX3_withHint_30 rfl (by decide) [1, 2, 0, 3] rfl ?_
        obtain ⟨z5, hz5⟩ : ∃ y9 : Int32, y9 = (z.2 + (1 : Int32)) := ⟨_, rfl⟩
        have hf := hf.trans (g_let_eq hz5)
        have hok := g_let_p hz5 hok
        refine x_iinc (v := z5) (lv' := [(0, .ref (q 0)), (1, .int x1), (2, .int z4), (3, .int z5)]) C dX3_withHint_31 3 rfl hz5.symm (by decide) [1, 2, 3, 0] rfl ?_
        refine x_goto (tgt := 4) C dX3_withHint_34 (by decide) ?_
        exact ih ((z4, z5)) (rOk_t hnx hf) (fun z' hz => K0 z' ((run_t hf).trans hz))
      · have hf := hf.trans (if_pos c3)
        have hok := g_ip c3 hok
        refine x_iconst (v := (1 : Int32)) C dX3_withHint_24 (by decide) ?_
        refine x_goto (tgt := 29) C dX3_withHint_25 (by decide) ?_
        refine x_iadd C dX3_withHint_29 ?_
        obtain ⟨z6, hz6⟩ : ∃ y9 : Int32, y9 = (z.1 + (1 : Int32)) := ⟨_, rfl⟩
        have hf := hf.trans (g_let_eq hz6)
        have hok := g_let_p hz6 hok
        refine x_topi hz6 ?_
        refine x_istore_n (lv' := [(0, .ref (q 0)), (1, .int x1), (2, .int z6), (3, .int z.2)]) C dX3_withHint_30 rfl (by decide) [1, 2, 0, 3] rfl ?_
        obtain ⟨z7, hz7⟩ : ∃ y9 : Int32, y9 = (z.2 + (1 : Int32)) := ⟨_, rfl⟩
        have hf := hf.trans (g_let_eq hz7)
        have hok := g_let_p hz7 hok
        refine x_iinc (v := z7) (lv' := [(0, .ref (q 0)), (1, .int x1), (2, .int z6), (3, .int z7)]) C dX3_withHint_31 3 rfl hz7.symm (by decide) [1, 2, 3, 0] rfl ?_
        refine x_goto (tgt := 4) C dX3_withHint_34 (by decide) ?_
        exact ih ((z6, z7)) (rOk_t hnx hf) (fun z' hz => K0 z' ((run_t hf).trans hz))
noncomputable def f_r_withHint (m : gM) (a1 : Int32) : Int32 := g_let (run (L_r_withHint_4 m a1) 400 (((0 : Int32), (0 : Int32)))) (fun z2 : Int32 × Int32 => z2.1)
noncomputable def o_r_withHint (m : gM) (a1 : Int32) : Prop := (rOk (L_r_withHint_4 m a1) (K_r_withHint_4 m a1) 400 (((0 : Int32), (0 : Int32)))) ∧ (g_let (run (L_r_withHint_4 m a1) 400 (((0 : Int32), (0 : Int32)))) (fun z2 : Int32 × Int32 => True))
set_option maxRecDepth 100000 in
set_option maxHeartbeats 4000000 in
theorem c_r_withHint (l : Launch) (G : gG) (q : Nat → Nat) (m : gM) (h : gN) (a1 : Int32) (hok : o_r_withHint m a1) : gMi l yX3_withHint wsX3_withHint rm_r_withHint G shM q m h [.ref (q 0), .int a1] m h (f_r_withHint m a1) := by
  intro sz
  refine g_met (cc := cX3_withHint) (maxL := 4) (ret := (some .int)) (own := RX3) (Qc := fun sz => gQi G shM q m h sz (f_r_withHint m a1)) (by decide) rfl rfl (Nat.le_of_ble_eq_true rfl) (fun p e s m9 below meth c C hq hr => ?_)
  refine x_lv (lv' := [(0, .ref (q 0)), (1, .int a1)]) [0, 1] rfl ?_
  have hf := f_r_withHint.eq_1 m a1
  have hok := Eq.mp (o_r_withHint.eq_1 m a1) hok
  refine x_iconst (v := (0 : Int32)) C dX3_withHint_0 (by decide) ?_
  refine x_istore_n (lv' := [(0, .ref (q 0)), (1, .int a1), (2, .int (0 : Int32))]) C dX3_withHint_1 rfl (by decide) [1, 2, 0] rfl ?_
  refine x_iconst (v := (0 : Int32)) C dX3_withHint_2 (by decide) ?_
  refine x_istore_n (lv' := [(0, .ref (q 0)), (1, .int a1), (2, .int (0 : Int32)), (3, .int (0 : Int32))]) C dX3_withHint_3 rfl (by decide) [1, 2, 3, 0] rfl ?_
  have s1 := And.left hok
  have hok := And.right hok
  refine lp_r_withHint_4 C hq m h a1 400 (((0 : Int32), (0 : Int32))) s1 (fun z2 hz2 => ?_)
  have hf := hf.trans (g_let_eq hz2.symm)
  have hok := g_let_p hz2.symm hok
  refine x_iload_n C dX3_withHint_37 rfl 2 rfl ?_
  exact g_iret C hr rfl dX3_withHint_38 hf.symm rfl rfl
set_option maxRecDepth 20000 in
theorem in_X3_ofStream_3 : ∀ w ∈ u_ws RX3 TX3 12, w ∈ wsX3_ofStream := by decide +kernel
set_option maxRecDepth 20000 in
theorem k_X3_ofStream_7 : Cond.fieldLink RX3 7 "HintedPagesModel" "now" "[I" ∈ wsX3_ofStream := by decide +kernel
abbrev rm_r_ofStream : Room := { frames := 2, cells := 0, slots := 0, locals := 45 }
noncomputable def f_r_ofStream (m : gM) (a1 : Int32) (a2 : Int32) : Int32 := g_let ((m 1 (((344 : Int32) + ((2 : Int32) * a1)) + (1 : Int32)).toNatClampNeg)) (fun z2 : Int32 => (if a1 = (4 : Int32) then (if a2 = (0 : Int32) then (m 1 ((344 : Int32) + ((2 : Int32) * a1)).toNatClampNeg) else (if a2 = (1 : Int32) then z2 else (if a2 = (2 : Int32) then (if a1 = (4 : Int32) then (0 : Int32) else (f_r_withHint m a1)) else (if a2 = (3 : Int32) then (0 : Int32) else (if z2 = 0 then (0 : Int32) else (((100 : Int32) * (z2 + (0 : Int32))) / z2)))))) else g_let ((m 1 ((354 : Int32) + a1).toNatClampNeg)) (fun z5 : Int32 => (if a2 = (0 : Int32) then (m 1 ((344 : Int32) + ((2 : Int32) * a1)).toNatClampNeg) else (if a2 = (1 : Int32) then z2 else (if a2 = (2 : Int32) then (if a1 = (4 : Int32) then (0 : Int32) else (f_r_withHint m a1)) else (if a2 = (3 : Int32) then z5 else (if z2 = 0 then (0 : Int32) else (((100 : Int32) * (z2 + z5)) / z2)))))))))
noncomputable def o_r_ofStream (m : gM) (a1 : Int32) (a2 : Int32) : Prop := (vp_in (((344 : Int32) + ((2 : Int32) * a1)) + (1 : Int32)) 364) ∧ (g_let ((m 1 (((344 : Int32) + ((2 : Int32) * a1)) + (1 : Int32)).toNatClampNeg)) (fun z2 : Int32 => (if a1 = (4 : Int32) then (if a2 = (0 : Int32) then (vp_in ((344 : Int32) + ((2 : Int32) * a1)) 364) ∧ (True) else (if a2 = (1 : Int32) then True else (if a2 = (2 : Int32) then (if a1 = (4 : Int32) then True else (o_r_withHint m a1) ∧ (True)) else (if a2 = (3 : Int32) then True else (if z2 = 0 then True else (¬ z2 = 0) ∧ (True)))))) else (vp_in ((354 : Int32) + a1) 364) ∧ (g_let ((m 1 ((354 : Int32) + a1).toNatClampNeg)) (fun z5 : Int32 => (if a2 = (0 : Int32) then (vp_in ((344 : Int32) + ((2 : Int32) * a1)) 364) ∧ (True) else (if a2 = (1 : Int32) then True else (if a2 = (2 : Int32) then (if a1 = (4 : Int32) then True else (o_r_withHint m a1) ∧ (True)) else (if a2 = (3 : Int32) then True else (if z2 = 0 then True else (¬ z2 = 0) ∧ (True)))))))))))
set_option maxRecDepth 100000 in
set_option maxHeartbeats 4000000 in
theorem c_r_ofStream (l : Launch) (G : gG) (q : Nat → Nat) (m : gM) (h : gN) (a1 : Int32) (a2 : Int32) (hok : o_r_ofStream m a1 a2) : gMi l yX3_ofStream wsX3_ofStream rm_r_ofStream G shM q m h [.ref (q 0), .int a1, .int a2] m h (f_r_ofStream m a1 a2) := by
  intro sz
  refine g_met (cc := cX3_ofStream) (maxL := 5) (ret := (some .int)) (own := RX3) (Qc := fun sz => gQi G shM q m h sz (f_r_ofStream m a1 a2)) (by decide) rfl rfl (Nat.le_of_ble_eq_true rfl) (fun p e s m9 below meth c C hq hr => ?_)
  refine x_lv (lv' := [(0, .ref (q 0)), (1, .int a1), (2, .int a2)]) [0, 1, 2] rfl ?_
  have hf := f_r_ofStream.eq_1 m a1 a2
  have hok := Eq.mp (o_r_ofStream.eq_1 m a1 a2) hok
  refine x_aload_n C dX3_ofStream_0 rfl 0 rfl ?_
  refine x_get (v := .ref (q 1)) C in_X3_ofStream_3 0 rfl rfl 0 (by decide) k_X3_ofStream_7 rfl rfl dX3_ofStream_1 ?_
  refine x_sipush (v := (344 : Int32)) C dX3_ofStream_4 (by decide) ?_
  refine x_iconst (v := (2 : Int32)) C dX3_ofStream_7 (by decide) ?_
  refine x_iload_n C dX3_ofStream_8 rfl 1 rfl ?_
  refine x_imul C dX3_ofStream_9 ?_
  refine x_iadd C dX3_ofStream_10 ?_
  refine x_iconst (v := (1 : Int32)) C dX3_ofStream_11 (by decide) ?_
  refine x_iadd C dX3_ofStream_12 ?_
  have s1 := And.left hok
  have hok := And.right hok
  refine x_iald (n := 364) (v := (m 1 (((344 : Int32) + ((2 : Int32) * a1)) + (1 : Int32)).toNatClampNeg)) C 1 rfl s1 rfl dX3_ofStream_13 ?_
  obtain ⟨z2, hz2⟩ : ∃ y9 : Int32, y9 = (m 1 (((344 : Int32) + ((2 : Int32) * a1)) + (1 : Int32)).toNatClampNeg) := ⟨_, rfl⟩
  have hf := hf.trans (g_let_eq hz2)
  have hok := g_let_p hz2 hok
  refine x_topi hz2 ?_
  refine x_istore_n (lv' := [(0, .ref (q 0)), (1, .int a1), (2, .int a2), (3, .int z2)]) C dX3_ofStream_14 rfl (by decide) [1, 2, 3, 0] rfl ?_
  refine x_iload_n C dX3_ofStream_15 rfl 1 rfl ?_
  refine x_iconst (v := (4 : Int32)) C dX3_ofStream_16 (by decide) ?_
  refine x_icmp_ne (tgt := 24) C dX3_ofStream_17 (by decide) (fun c3 => ?_) (fun c3 => ?_)
  · have hf := hf.trans (if_neg c3)
    have hok := g_in c3 hok
    refine x_aload_n C dX3_ofStream_24 rfl 0 rfl ?_
    refine x_get (v := .ref (q 1)) C in_X3_ofStream_3 0 rfl rfl 0 (by decide) k_X3_ofStream_7 rfl rfl dX3_ofStream_25 ?_
    refine x_sipush (v := (354 : Int32)) C dX3_ofStream_28 (by decide) ?_
    refine x_iload_n C dX3_ofStream_31 rfl 1 rfl ?_
    refine x_iadd C dX3_ofStream_32 ?_
    have s4 := And.left hok
    have hok := And.right hok
    refine x_iald (n := 364) (v := (m 1 ((354 : Int32) + a1).toNatClampNeg)) C 1 rfl s4 rfl dX3_ofStream_33 ?_
    obtain ⟨z5, hz5⟩ : ∃ y9 : Int32, y9 = (m 1 ((354 : Int32) + a1).toNatClampNeg) := ⟨_, rfl⟩
    have hf := hf.trans (g_let_eq hz5)
    have hok := g_let_p hz5 hok
    refine x_topi hz5 ?_
    refine x_istore (lv' := [(0, .ref (q 0)), (1, .int a1), (2, .int a2), (3, .int z2), (4, .int z5)]) C dX3_ofStream_34 (by decide) [1, 2, 3, 4, 0] rfl ?_
    refine x_iload_n C dX3_ofStream_36 rfl 2 rfl ?_
    by_cases c6 : a2 = (0 : Int32)
    · have hf := hf.trans (if_pos c6)
      have hok := g_ip c6 hok
      refine x_tin (tgt := 68) C dX3_ofStream_37 c6 (by decide) (by decide) rfl (by decide) ?_
      refine x_aload_n C dX3_ofStream_68 rfl 0 rfl ?_
      refine x_get (v := .ref (q 1)) C in_X3_ofStream_3 0 rfl rfl 0 (by decide) k_X3_ofStream_7 rfl rfl dX3_ofStream_69 ?_
      refine x_sipush (v := (344 : Int32)) C dX3_ofStream_72 (by decide) ?_
      refine x_iconst (v := (2 : Int32)) C dX3_ofStream_75 (by decide) ?_
      refine x_iload_n C dX3_ofStream_76 rfl 1 rfl ?_
      refine x_imul C dX3_ofStream_77 ?_
      refine x_iadd C dX3_ofStream_78 ?_
      have s7 := And.left hok
      have hok := And.right hok
      refine x_iald (n := 364) (v := (m 1 ((344 : Int32) + ((2 : Int32) * a1)).toNatClampNeg)) C 1 rfl s7 rfl dX3_ofStream_79 ?_
      exact g_iret C hr rfl dX3_ofStream_80 hf.symm rfl rfl
    · have hf := hf.trans (if_neg c6)
      have hok := g_in c6 hok
      by_cases c8 : a2 = (1 : Int32)
      · have hf := hf.trans (if_pos c8)
        have hok := g_ip c8 hok
        refine x_tin (tgt := 81) C dX3_ofStream_37 c8 (by decide) (by decide) rfl (by decide) ?_
        refine x_iload_n C dX3_ofStream_81 rfl 3 rfl ?_
        exact g_iret C hr rfl dX3_ofStream_82 hf.symm rfl rfl
      · have hf := hf.trans (if_neg c8)
        have hok := g_in c8 hok
        by_cases c9 : a2 = (2 : Int32)
        · have hf := hf.trans (if_pos c9)
          have hok := g_ip c9 hok
          refine x_tin (tgt := 83) C dX3_ofStream_37 c9 (by decide) (by decide) rfl (by decide) ?_
          refine x_iload_n C dX3_ofStream_83 rfl 1 rfl ?_
          refine x_iconst (v := (4 : Int32)) C dX3_ofStream_84 (by decide) ?_
          refine x_icmp_ne (tgt := 92) C dX3_ofStream_85 (by decide) (fun c10 => ?_) (fun c10 => ?_)
          · have hf := hf.trans (if_neg c10)
            have hok := g_in c10 hok
            refine x_aload_n C dX3_ofStream_92 rfl 0 rfl ?_
            refine x_iload_n C dX3_ofStream_93 rfl 1 rfl ?_
            have s11 := And.left hok
            have hok := And.right hok
            refine x_callVi (n := 1) C hq gFr_same (c_r_withHint l G q m h a1 s11) (cwV 1 C.2.2.2.2.2.1 gX3_ofStream_X3_withHint rfl rfl rfl (by decide +kernel) ⟨Nat.le_of_ble_eq_true rfl, Nat.le_of_ble_eq_true rfl⟩) rfl rfl rfl rfl (Nat.le_of_ble_eq_true rfl) dX3_ofStream_94 (Nat.zero_le _) (Nat.zero_le _) ?_
            exact g_iret C hr rfl dX3_ofStream_97 hf.symm rfl rfl
          · have hf := hf.trans (if_pos c10)
            have hok := g_ip c10 hok
            refine x_iconst (v := (0 : Int32)) C dX3_ofStream_88 (by decide) ?_
            refine x_goto (tgt := 97) C dX3_ofStream_89 (by decide) ?_
            exact g_iret C hr rfl dX3_ofStream_97 hf.symm rfl rfl
        · have hf := hf.trans (if_neg c9)
          have hok := g_in c9 hok
          by_cases c12 : a2 = (3 : Int32)
          · have hf := hf.trans (if_pos c12)
            have hok := g_ip c12 hok
            refine x_tin (tgt := 98) C dX3_ofStream_37 c12 (by decide) (by decide) rfl (by decide) ?_
            refine x_iload C dX3_ofStream_98 4 rfl ?_
            exact g_iret C hr rfl dX3_ofStream_100 hf.symm rfl rfl
          · have hf := hf.trans (if_neg c12)
            have hok := g_in c12 hok
            refine x_tout (tgt := 101) C dX3_ofStream_37 (by have wc6 := lv_neT (a := 0) c6 rfl; have wc8 := lv_neT (a := 1) c8 rfl; have wc9 := lv_neT (a := 2) c9 rfl; have wc12 := lv_neT (a := 3) c12 rfl; omega) (by decide) ?_
            refine x_iload_n C dX3_ofStream_101 rfl 3 rfl ?_
            refine x_if_ne (tgt := 109) C dX3_ofStream_102 (by decide) (fun c13 => ?_) (fun c13 => ?_)
            · have hf := hf.trans (if_neg c13)
              have hok := g_in c13 hok
              refine x_bipush (v := (100 : Int32)) C dX3_ofStream_109 (by decide) ?_
              refine x_iload_n C dX3_ofStream_111 rfl 3 rfl ?_
              refine x_iload C dX3_ofStream_112 4 rfl ?_
              refine x_iadd C dX3_ofStream_114 ?_
              refine x_imul C dX3_ofStream_115 ?_
              refine x_iload_n C dX3_ofStream_116 rfl 3 rfl ?_
              have s14 := And.left hok
              have hok := And.right hok
              refine x_idiv C dX3_ofStream_117 s14 ?_
              exact g_iret C hr rfl dX3_ofStream_118 hf.symm rfl rfl
            · have hf := hf.trans (if_pos c13)
              have hok := g_ip c13 hok
              refine x_iconst (v := (0 : Int32)) C dX3_ofStream_105 (by decide) ?_
              refine x_goto (tgt := 118) C dX3_ofStream_106 (by decide) ?_
              exact g_iret C hr rfl dX3_ofStream_118 hf.symm rfl rfl
  · have hf := hf.trans (if_pos c3)
    have hok := g_ip c3 hok
    refine x_iconst (v := (0 : Int32)) C dX3_ofStream_20 (by decide) ?_
    refine x_goto (tgt := 34) C dX3_ofStream_21 (by decide) ?_
    refine x_istore (lv' := [(0, .ref (q 0)), (1, .int a1), (2, .int a2), (3, .int z2), (4, .int (0 : Int32))]) C dX3_ofStream_34 (by decide) [1, 2, 3, 4, 0] rfl ?_
    refine x_iload_n C dX3_ofStream_36 rfl 2 rfl ?_
    by_cases c15 : a2 = (0 : Int32)
    · have hf := hf.trans (if_pos c15)
      have hok := g_ip c15 hok
      refine x_tin (tgt := 68) C dX3_ofStream_37 c15 (by decide) (by decide) rfl (by decide) ?_
      refine x_aload_n C dX3_ofStream_68 rfl 0 rfl ?_
      refine x_get (v := .ref (q 1)) C in_X3_ofStream_3 0 rfl rfl 0 (by decide) k_X3_ofStream_7 rfl rfl dX3_ofStream_69 ?_
      refine x_sipush (v := (344 : Int32)) C dX3_ofStream_72 (by decide) ?_
      refine x_iconst (v := (2 : Int32)) C dX3_ofStream_75 (by decide) ?_
      refine x_iload_n C dX3_ofStream_76 rfl 1 rfl ?_
      refine x_imul C dX3_ofStream_77 ?_
      refine x_iadd C dX3_ofStream_78 ?_
      have s16 := And.left hok
      have hok := And.right hok
      refine x_iald (n := 364) (v := (m 1 ((344 : Int32) + ((2 : Int32) * a1)).toNatClampNeg)) C 1 rfl s16 rfl dX3_ofStream_79 ?_
      exact g_iret C hr rfl dX3_ofStream_80 hf.symm rfl rfl
    · have hf := hf.trans (if_neg c15)
      have hok := g_in c15 hok
      by_cases c17 : a2 = (1 : Int32)
      · have hf := hf.trans (if_pos c17)
        have hok := g_ip c17 hok
        refine x_tin (tgt := 81) C dX3_ofStream_37 c17 (by decide) (by decide) rfl (by decide) ?_
        refine x_iload_n C dX3_ofStream_81 rfl 3 rfl ?_
        exact g_iret C hr rfl dX3_ofStream_82 hf.symm rfl rfl
      · have hf := hf.trans (if_neg c17)
        have hok := g_in c17 hok
        by_cases c18 : a2 = (2 : Int32)
        · have hf := hf.trans (if_pos c18)
          have hok := g_ip c18 hok
          refine x_tin (tgt := 83) C dX3_ofStream_37 c18 (by decide) (by decide) rfl (by decide) ?_
          refine x_iload_n C dX3_ofStream_83 rfl 1 rfl ?_
          refine x_iconst (v := (4 : Int32)) C dX3_ofStream_84 (by decide) ?_
          refine x_icmp_ne (tgt := 92) C dX3_ofStream_85 (by decide) (fun c19 => ?_) (fun c19 => ?_)
          · have hf := hf.trans (if_neg c19)
            have hok := g_in c19 hok
            refine x_aload_n C dX3_ofStream_92 rfl 0 rfl ?_
            refine x_iload_n C dX3_ofStream_93 rfl 1 rfl ?_
            have s20 := And.left hok
            have hok := And.right hok
            refine x_callVi (n := 1) C hq gFr_same (c_r_withHint l G q m h a1 s20) (cwV 1 C.2.2.2.2.2.1 gX3_ofStream_X3_withHint rfl rfl rfl (by decide +kernel) ⟨Nat.le_of_ble_eq_true rfl, Nat.le_of_ble_eq_true rfl⟩) rfl rfl rfl rfl (Nat.le_of_ble_eq_true rfl) dX3_ofStream_94 (Nat.zero_le _) (Nat.zero_le _) ?_
            exact g_iret C hr rfl dX3_ofStream_97 hf.symm rfl rfl
          · have hf := hf.trans (if_pos c19)
            have hok := g_ip c19 hok
            refine x_iconst (v := (0 : Int32)) C dX3_ofStream_88 (by decide) ?_
            refine x_goto (tgt := 97) C dX3_ofStream_89 (by decide) ?_
            exact g_iret C hr rfl dX3_ofStream_97 hf.symm rfl rfl
        · have hf := hf.trans (if_neg c18)
          have hok := g_in c18 hok
          by_cases c21 : a2 = (3 : Int32)
          · have hf := hf.trans (if_pos c21)
            have hok := g_ip c21 hok
            refine x_tin (tgt := 98) C dX3_ofStream_37 c21 (by decide) (by decide) rfl (by decide) ?_
            refine x_iload C dX3_ofStream_98 4 rfl ?_
            exact g_iret C hr rfl dX3_ofStream_100 hf.symm rfl rfl
          · have hf := hf.trans (if_neg c21)
            have hok := g_in c21 hok
            refine x_tout (tgt := 101) C dX3_ofStream_37 (by have wc15 := lv_neT (a := 0) c15 rfl; have wc17 := lv_neT (a := 1) c17 rfl; have wc18 := lv_neT (a := 2) c18 rfl; have wc21 := lv_neT (a := 3) c21 rfl; omega) (by decide) ?_
            refine x_iload_n C dX3_ofStream_101 rfl 3 rfl ?_
            refine x_if_ne (tgt := 109) C dX3_ofStream_102 (by decide) (fun c22 => ?_) (fun c22 => ?_)
            · have hf := hf.trans (if_neg c22)
              have hok := g_in c22 hok
              refine x_bipush (v := (100 : Int32)) C dX3_ofStream_109 (by decide) ?_
              refine x_iload_n C dX3_ofStream_111 rfl 3 rfl ?_
              refine x_iload C dX3_ofStream_112 4 rfl ?_
              refine x_iadd C dX3_ofStream_114 ?_
              refine x_imul C dX3_ofStream_115 ?_
              refine x_iload_n C dX3_ofStream_116 rfl 3 rfl ?_
              have s23 := And.left hok
              have hok := And.right hok
              refine x_idiv C dX3_ofStream_117 s23 ?_
              exact g_iret C hr rfl dX3_ofStream_118 hf.symm rfl rfl
            · have hf := hf.trans (if_pos c22)
              have hok := g_ip c22 hok
              refine x_iconst (v := (0 : Int32)) C dX3_ofStream_105 (by decide) ?_
              refine x_goto (tgt := 118) C dX3_ofStream_106 (by decide) ?_
              exact g_iret C hr rfl dX3_ofStream_118 hf.symm rfl rfl
set_option maxRecDepth 20000 in
theorem in_X3_stream_3 : ∀ w ∈ u_ws RX3 TX3 12, w ∈ wsX3_stream := by decide +kernel
set_option maxRecDepth 20000 in
theorem k_X3_stream_25 : Cond.fieldLink RX3 25 "HintedPagesModel" "thrown" "I" ∈ wsX3_stream := by decide +kernel
abbrev rm_r_stream : Room := { frames := 3, cells := 0, slots := 0, locals := 69 }
noncomputable def f_r_stream (m : gM) (a1 : Int32) (a2 : Int32) : Int32 × gM := g_let (g_set m 0 (upd (m 0) 6 (0 : Int32))) (fun z1 : gM => (if (f_r_in a1 (0 : Int32) (4 : Int32)) = 0 then g_let (f_r_fails z1 (1 : Int32)) (fun z10 : Int32 × gM => (z10.1, z10.2)) else (if (f_r_in a2 (0 : Int32) (4 : Int32)) = 0 then g_let (f_r_fails z1 (2 : Int32)) (fun z7 : Int32 × gM => (z7.1, z7.2)) else ((f_r_ofStream z1 a1 a2), z1))))
noncomputable def o_r_stream (m : gM) (a1 : Int32) (a2 : Int32) : Prop := g_let (g_set m 0 (upd (m 0) 6 (0 : Int32))) (fun z1 : gM => (o_r_in a1 (0 : Int32) (4 : Int32)) ∧ ((if (f_r_in a1 (0 : Int32) (4 : Int32)) = 0 then (o_r_fails z1 (1 : Int32)) ∧ (g_let (f_r_fails z1 (1 : Int32)) (fun z10 : Int32 × gM => True)) else (o_r_in a2 (0 : Int32) (4 : Int32)) ∧ ((if (f_r_in a2 (0 : Int32) (4 : Int32)) = 0 then (o_r_fails z1 (2 : Int32)) ∧ (g_let (f_r_fails z1 (2 : Int32)) (fun z7 : Int32 × gM => True)) else (o_r_ofStream z1 a1 a2) ∧ (True))))))
set_option maxRecDepth 100000 in
set_option maxHeartbeats 4000000 in
theorem c_r_stream (l : Launch) (G : gG) (q : Nat → Nat) (m : gM) (h : gN) (a1 : Int32) (a2 : Int32) (hok : o_r_stream m a1 a2) : gMi l yX3_stream wsX3_stream rm_r_stream G shM q m h [.ref (q 0), .int a1, .int a2] ((f_r_stream m a1 a2).2) h ((f_r_stream m a1 a2).1) := by
  intro sz
  refine g_met (cc := cX3_stream) (maxL := 3) (ret := (some .int)) (own := RX3) (Qc := fun sz => gQi G shM q ((f_r_stream m a1 a2).2) h sz ((f_r_stream m a1 a2).1)) (by decide) rfl rfl (Nat.le_of_ble_eq_true rfl) (fun p e s m9 below meth c C hq hr => ?_)
  refine x_lv (lv' := [(0, .ref (q 0)), (1, .int a1), (2, .int a2)]) [0, 1, 2] rfl ?_
  have hf := f_r_stream.eq_1 m a1 a2
  have hok := Eq.mp (o_r_stream.eq_1 m a1 a2) hok
  refine x_aload_n C dX3_stream_0 rfl 0 rfl ?_
  refine x_iconst (v := (0 : Int32)) C dX3_stream_1 (by decide) ?_
  obtain ⟨z1, hz1⟩ : ∃ y9 : gM, y9 = g_set m 0 (upd (m 0) 6 (0 : Int32)) := ⟨_, rfl⟩
  have hf := hf.trans (g_let_eq hz1)
  have hok := g_let_p hz1 hok
  refine x_puti (μ' := z1) (ty := .int) C hq tyX3 tyX3_ok nmX3 in_X3_stream_3 0 rfl rfl 6 (by decide) k_X3_stream_25 rfl (tyX3_ok 6 (by decide)) rfl rfl rfl hz1 dX3_stream_2 ?_
  refine x_iload_n C dX3_stream_5 rfl 1 rfl ?_
  refine x_iconst (v := (0 : Int32)) C dX3_stream_6 (by decide) ?_
  refine x_iconst (v := (4 : Int32)) C dX3_stream_7 (by decide) ?_
  have s2 := And.left hok
  have hok := And.right hok
  refine x_callSi (n := 3) C hq (gFr_pure gs_M_0_) (c_r_in l G (g_sel [] q) (g_sel [] z1) (g_sel [] h) a1 (0 : Int32) (4 : Int32) s2) (va_cwS 3 C.2.2.2.2.2.1 gX3_stream_X3_in rfl rfl rfl (by decide +kernel) ⟨Nat.le_of_ble_eq_true rfl, Nat.le_of_ble_eq_true rfl⟩) rfl rfl (Nat.le_of_ble_eq_true rfl) dX3_stream_8 (Nat.zero_le _) (Nat.zero_le _) ?_
  refine x_if_ne (tgt := 20) C dX3_stream_11 (by decide) (fun c3 => ?_) (fun c3 => ?_)
  · have hf := hf.trans (if_neg c3)
    have hok := g_in c3 hok
    refine x_iload_n C dX3_stream_20 rfl 2 rfl ?_
    refine x_iconst (v := (0 : Int32)) C dX3_stream_21 (by decide) ?_
    refine x_iconst (v := (4 : Int32)) C dX3_stream_22 (by decide) ?_
    have s4 := And.left hok
    have hok := And.right hok
    refine x_callSi (n := 3) C hq (gFr_pure gs_M_0_) (c_r_in l G (g_sel [] q) (g_sel [] z1) (g_sel [] h) a2 (0 : Int32) (4 : Int32) s4) (va_cwS 3 C.2.2.2.2.2.1 gX3_stream_X3_in rfl rfl rfl (by decide +kernel) ⟨Nat.le_of_ble_eq_true rfl, Nat.le_of_ble_eq_true rfl⟩) rfl rfl (Nat.le_of_ble_eq_true rfl) dX3_stream_23 (Nat.zero_le _) (Nat.zero_le _) ?_
    refine x_if_eq (tgt := 38) C dX3_stream_26 (by decide) (fun c5 => ?_) (fun c5 => ?_)
    · have hf := hf.trans (if_pos c5)
      have hok := g_ip c5 hok
      refine x_aload_n C dX3_stream_38 rfl 0 rfl ?_
      refine x_iconst (v := (2 : Int32)) C dX3_stream_39 (by decide) ?_
      have s6 := And.left hok
      have hok := And.right hok
      obtain ⟨z7, hz7⟩ : ∃ y9 : Int32 × gM, y9 = f_r_fails z1 (2 : Int32) := ⟨_, rfl⟩
      have hf := hf.trans (g_let_eq hz7)
      have hok := g_let_p hz7 hok
      have hmz7 : gMi l yX3_fails wsX3_fails rm_r_fails G shM q z1 h [.ref (q 0), .int (2 : Int32)] z7.2 h z7.1 := by rw [hz7]; exact c_r_fails l G q z1 h (2 : Int32) s6
      refine x_callVi (n := 1) C hq gFr_same (hmz7) (cwV 1 C.2.2.2.2.2.1 gX3_stream_X3_fails rfl rfl rfl (by decide +kernel) ⟨Nat.le_of_ble_eq_true rfl, Nat.le_of_ble_eq_true rfl⟩) rfl rfl rfl rfl (Nat.le_of_ble_eq_true rfl) dX3_stream_40 (Nat.zero_le _) (Nat.zero_le _) ?_
      exact g_iret C hr rfl dX3_stream_43 (congrArg (fun z => z.1) hf).symm (congrArg (fun z => z.2) hf).symm rfl
    · have hf := hf.trans (if_neg c5)
      have hok := g_in c5 hok
      refine x_aload_n C dX3_stream_29 rfl 0 rfl ?_
      refine x_iload_n C dX3_stream_30 rfl 1 rfl ?_
      refine x_iload_n C dX3_stream_31 rfl 2 rfl ?_
      have s8 := And.left hok
      have hok := And.right hok
      refine x_callVi (n := 2) C hq gFr_same (c_r_ofStream l G q z1 h a1 a2 s8) (cwV 2 C.2.2.2.2.2.1 gX3_stream_X3_ofStream rfl rfl rfl (by decide +kernel) ⟨Nat.le_of_ble_eq_true rfl, Nat.le_of_ble_eq_true rfl⟩) rfl rfl rfl rfl (Nat.le_of_ble_eq_true rfl) dX3_stream_32 (Nat.zero_le _) (Nat.zero_le _) ?_
      refine x_goto (tgt := 43) C dX3_stream_35 (by decide) ?_
      exact g_iret C hr rfl dX3_stream_43 (congrArg (fun z => z.1) hf).symm (congrArg (fun z => z.2) hf).symm rfl
  · have hf := hf.trans (if_pos c3)
    have hok := g_ip c3 hok
    refine x_aload_n C dX3_stream_14 rfl 0 rfl ?_
    refine x_iconst (v := (1 : Int32)) C dX3_stream_15 (by decide) ?_
    have s9 := And.left hok
    have hok := And.right hok
    obtain ⟨z10, hz10⟩ : ∃ y9 : Int32 × gM, y9 = f_r_fails z1 (1 : Int32) := ⟨_, rfl⟩
    have hf := hf.trans (g_let_eq hz10)
    have hok := g_let_p hz10 hok
    have hmz10 : gMi l yX3_fails wsX3_fails rm_r_fails G shM q z1 h [.ref (q 0), .int (1 : Int32)] z10.2 h z10.1 := by rw [hz10]; exact c_r_fails l G q z1 h (1 : Int32) s9
    refine x_callVi (n := 1) C hq gFr_same (hmz10) (cwV 1 C.2.2.2.2.2.1 gX3_stream_X3_fails rfl rfl rfl (by decide +kernel) ⟨Nat.le_of_ble_eq_true rfl, Nat.le_of_ble_eq_true rfl⟩) rfl rfl rfl rfl (Nat.le_of_ble_eq_true rfl) dX3_stream_16 (Nat.zero_le _) (Nat.zero_le _) ?_
    exact g_iret C hr rfl dX3_stream_19 (congrArg (fun z => z.1) hf).symm (congrArg (fun z => z.2) hf).symm rfl
set_option maxRecDepth 20000 in
theorem in_X3_allSlots_3 : ∀ w ∈ u_ws RX3 TX3 12, w ∈ wsX3_allSlots := by decide +kernel
set_option maxRecDepth 20000 in
theorem k_X3_allSlots_7 : Cond.fieldLink RX3 7 "HintedPagesModel" "now" "[I" ∈ wsX3_allSlots := by decide +kernel
abbrev rm_r_allSlots : Room := { frames := 3, cells := 0, slots := 0, locals := 68 }
noncomputable def L_r_allSlots_4 (m : gM) (x1 : Int32) (z : Int32 × Int32) : Bool × (Int32 × Int32) := (if (12 : Int32) ≤ z.2 then (false, (z.1, z.2)) else g_let ((z.1 + (f_r_slots (g_sel [1] m) z.2 x1))) (fun z3 : Int32 => g_let ((z.2 + (1 : Int32))) (fun z4 : Int32 => (true, (z3, z4)))))
noncomputable def K_r_allSlots_4 (m : gM) (x1 : Int32) (z : Int32 × Int32) : Prop := (if (12 : Int32) ≤ z.2 then True else (o_r_slots (g_sel [1] m) z.2 x1) ∧ (g_let ((z.1 + (f_r_slots (g_sel [1] m) z.2 x1))) (fun z3 : Int32 => g_let ((z.2 + (1 : Int32))) (fun z4 : Int32 => True))))
set_option maxRecDepth 100000 in
set_option maxHeartbeats 4000000 in
theorem lp_r_allSlots_4 {p : Program} {l : Launch} {e : Env} {s : State} {m9 : MethodId} {args : Array Value} {below : List Frame} {meth : Method} {c : Code} {G : gG} {A : Nat → Prop} {Q : State → Prop} {q : Nat → Nat} (C : xC p s m9 args meth c G A 4 cX3_allSlots RX3 wsX3_allSlots) (hq : gD A q shM.length) (m : gM) (h : gN) (x1 : Int32) : ∀ (n : Nat) (z : Int32 × Int32), rOk (L_r_allSlots_4 m x1) (K_r_allSlots_4 m x1) n z → (∀ z' : Int32 × Int32, run (L_r_allSlots_4 m x1) n z = z' → xJ p l e rm_r_allSlots s m9 args below meth c G A 4 Q 0 0 shM q m h [(0, .ref (q 0)), (1, .int x1), (2, .int z'.1), (3, .int z'.2)] [] 28) → xJ p l e rm_r_allSlots s m9 args below meth c G A 4 Q 0 0 shM q m h [(0, .ref (q 0)), (1, .int x1), (2, .int z.1), (3, .int z.2)] [] 4 := by
  intro n
  induction n with
  | zero =>
    intro z hok _
    exact rOk_0 hok
  | succ n ih =>
    intro z hok K0
    have hnx := rOk_2 hok
    have hok := rOk_1 hok
    have hf := L_r_allSlots_4.eq_1 m x1 z
    have hok := Eq.mp (K_r_allSlots_4.eq_1 m x1 z) hok
    refine x_iload_n C dX3_allSlots_4 rfl 3 rfl ?_
    refine x_bipush (v := (12 : Int32)) C dX3_allSlots_5 (by decide) ?_
    refine x_icmp_ge (tgt := 28) C dX3_allSlots_7 (by decide) (fun c1 => ?_) (fun c1 => ?_)
    · have hf := hf.trans (if_pos c1)
      have hok := g_ip c1 hok
      exact K0 ((z.1, z.2)) (run_f hf)
    · have hf := hf.trans (if_neg c1)
      have hok := g_in c1 hok
      refine x_iload_n C dX3_allSlots_10 rfl 2 rfl ?_
      refine x_aload_n C dX3_allSlots_11 rfl 0 rfl ?_
      refine x_get (v := .ref (q 1)) C in_X3_allSlots_3 0 rfl rfl 0 (by decide) k_X3_allSlots_7 rfl rfl dX3_allSlots_12 ?_
      refine x_iload_n C dX3_allSlots_15 rfl 3 rfl ?_
      refine x_iload_n C dX3_allSlots_16 rfl 1 rfl ?_
      have s2 := And.left hok
      have hok := And.right hok
      refine x_callSi (n := 3) C hq (gFr_pure gs_M_r_1) (c_r_slots l G (g_sel [1] q) (g_sel [1] m) (g_sel [1] h) z.2 x1 s2) (va_cwS 3 C.2.2.2.2.2.1 gX3_allSlots_X3_slots rfl rfl rfl (by decide +kernel) ⟨Nat.le_of_ble_eq_true rfl, Nat.le_of_ble_eq_true rfl⟩) rfl rfl (Nat.le_of_ble_eq_true rfl) dX3_allSlots_17 (Nat.zero_le _) (Nat.zero_le _) ?_
      refine x_iadd C dX3_allSlots_20 ?_
      obtain ⟨z3, hz3⟩ : ∃ y9 : Int32, y9 = (z.1 + (f_r_slots (g_sel [1] m) z.2 x1)) := ⟨_, rfl⟩
      have hf := hf.trans (g_let_eq hz3)
      have hok := g_let_p hz3 hok
      refine x_topi hz3 ?_
      refine x_istore_n (lv' := [(0, .ref (q 0)), (1, .int x1), (2, .int z3), (3, .int z.2)]) C dX3_allSlots_21 rfl (by decide) [1, 2, 0, 3] rfl ?_
      obtain ⟨z4, hz4⟩ : ∃ y9 : Int32, y9 = (z.2 + (1 : Int32)) := ⟨_, rfl⟩
      have hf := hf.trans (g_let_eq hz4)
      have hok := g_let_p hz4 hok
      refine x_iinc (v := z4) (lv' := [(0, .ref (q 0)), (1, .int x1), (2, .int z3), (3, .int z4)]) C dX3_allSlots_22 3 rfl hz4.symm (by decide) [1, 2, 3, 0] rfl ?_
      refine x_goto (tgt := 4) C dX3_allSlots_25 (by decide) ?_
      exact ih ((z3, z4)) (rOk_t hnx hf) (fun z' hz => K0 z' ((run_t hf).trans hz))
noncomputable def f_r_allSlots (m : gM) (a1 : Int32) : Int32 := g_let (run (L_r_allSlots_4 m a1) 400 (((0 : Int32), (0 : Int32)))) (fun z2 : Int32 × Int32 => z2.1)
noncomputable def o_r_allSlots (m : gM) (a1 : Int32) : Prop := (rOk (L_r_allSlots_4 m a1) (K_r_allSlots_4 m a1) 400 (((0 : Int32), (0 : Int32)))) ∧ (g_let (run (L_r_allSlots_4 m a1) 400 (((0 : Int32), (0 : Int32)))) (fun z2 : Int32 × Int32 => True))
set_option maxRecDepth 100000 in
set_option maxHeartbeats 4000000 in
theorem c_r_allSlots (l : Launch) (G : gG) (q : Nat → Nat) (m : gM) (h : gN) (a1 : Int32) (hok : o_r_allSlots m a1) : gMi l yX3_allSlots wsX3_allSlots rm_r_allSlots G shM q m h [.ref (q 0), .int a1] m h (f_r_allSlots m a1) := by
  intro sz
  refine g_met (cc := cX3_allSlots) (maxL := 4) (ret := (some .int)) (own := RX3) (Qc := fun sz => gQi G shM q m h sz (f_r_allSlots m a1)) (by decide) rfl rfl (Nat.le_of_ble_eq_true rfl) (fun p e s m9 below meth c C hq hr => ?_)
  refine x_lv (lv' := [(0, .ref (q 0)), (1, .int a1)]) [0, 1] rfl ?_
  have hf := f_r_allSlots.eq_1 m a1
  have hok := Eq.mp (o_r_allSlots.eq_1 m a1) hok
  refine x_iconst (v := (0 : Int32)) C dX3_allSlots_0 (by decide) ?_
  refine x_istore_n (lv' := [(0, .ref (q 0)), (1, .int a1), (2, .int (0 : Int32))]) C dX3_allSlots_1 rfl (by decide) [1, 2, 0] rfl ?_
  refine x_iconst (v := (0 : Int32)) C dX3_allSlots_2 (by decide) ?_
  refine x_istore_n (lv' := [(0, .ref (q 0)), (1, .int a1), (2, .int (0 : Int32)), (3, .int (0 : Int32))]) C dX3_allSlots_3 rfl (by decide) [1, 2, 3, 0] rfl ?_
  have s1 := And.left hok
  have hok := And.right hok
  refine lp_r_allSlots_4 C hq m h a1 400 (((0 : Int32), (0 : Int32))) s1 (fun z2 hz2 => ?_)
  have hf := hf.trans (g_let_eq hz2.symm)
  have hok := g_let_p hz2.symm hok
  refine x_iload_n C dX3_allSlots_28 rfl 2 rfl ?_
  exact g_iret C hr rfl dX3_allSlots_29 hf.symm rfl rfl
set_option maxRecDepth 20000 in
theorem in_X3_unlikeErasures_3 : ∀ w ∈ u_ws RX3 TX3 12, w ∈ wsX3_unlikeErasures := by decide +kernel
set_option maxRecDepth 20000 in
theorem k_X3_unlikeErasures_7 : Cond.fieldLink RX3 7 "HintedPagesModel" "now" "[I" ∈ wsX3_unlikeErasures := by decide +kernel
abbrev rm_r_unlikeErasures : Room := { frames := 0, cells := 0, slots := 0, locals := 0 }
noncomputable def L_r_unlikeErasures_18 (m : gM) (z : Int32 × Int32 × Int32) : Bool × (Int32 × Int32 × Int32) := (if (12 : Int32) ≤ z.2.2 then (false, (z.1, z.2.1, z.2.2)) else (if z.1 ≤ (m 1 ((120 : Int32) + z.2.2).toNatClampNeg) then (if (m 1 ((120 : Int32) + z.2.2).toNatClampNeg) ≤ z.2.1 then g_let ((z.2.2 + (1 : Int32))) (fun z6 : Int32 => (true, (z.1, z.2.1, z6))) else g_let ((m 1 ((120 : Int32) + z.2.2).toNatClampNeg)) (fun z8 : Int32 => g_let ((z.2.2 + (1 : Int32))) (fun z9 : Int32 => (true, (z.1, z8, z9))))) else g_let ((m 1 ((120 : Int32) + z.2.2).toNatClampNeg)) (fun z11 : Int32 => (if (m 1 ((120 : Int32) + z.2.2).toNatClampNeg) ≤ z.2.1 then g_let ((z.2.2 + (1 : Int32))) (fun z14 : Int32 => (true, (z11, z.2.1, z14))) else g_let ((m 1 ((120 : Int32) + z.2.2).toNatClampNeg)) (fun z16 : Int32 => g_let ((z.2.2 + (1 : Int32))) (fun z17 : Int32 => (true, (z11, z16, z17))))))))
noncomputable def K_r_unlikeErasures_18 (m : gM) (z : Int32 × Int32 × Int32) : Prop := (if (12 : Int32) ≤ z.2.2 then True else (vp_in ((120 : Int32) + z.2.2) 364) ∧ ((if z.1 ≤ (m 1 ((120 : Int32) + z.2.2).toNatClampNeg) then (vp_in ((120 : Int32) + z.2.2) 364) ∧ ((if (m 1 ((120 : Int32) + z.2.2).toNatClampNeg) ≤ z.2.1 then g_let ((z.2.2 + (1 : Int32))) (fun z6 : Int32 => True) else (vp_in ((120 : Int32) + z.2.2) 364) ∧ (g_let ((m 1 ((120 : Int32) + z.2.2).toNatClampNeg)) (fun z8 : Int32 => g_let ((z.2.2 + (1 : Int32))) (fun z9 : Int32 => True))))) else (vp_in ((120 : Int32) + z.2.2) 364) ∧ (g_let ((m 1 ((120 : Int32) + z.2.2).toNatClampNeg)) (fun z11 : Int32 => (vp_in ((120 : Int32) + z.2.2) 364) ∧ ((if (m 1 ((120 : Int32) + z.2.2).toNatClampNeg) ≤ z.2.1 then g_let ((z.2.2 + (1 : Int32))) (fun z14 : Int32 => True) else (vp_in ((120 : Int32) + z.2.2) 364) ∧ (g_let ((m 1 ((120 : Int32) + z.2.2).toNatClampNeg)) (fun z16 : Int32 => g_let ((z.2.2 + (1 : Int32))) (fun z17 : Int32 => True))))))))))
set_option maxRecDepth 100000 in
set_option maxHeartbeats 4000000 in
theorem lp_r_unlikeErasures_18 {p : Program} {l : Launch} {e : Env} {s : State} {m9 : MethodId} {args : Array Value} {below : List Frame} {meth : Method} {c : Code} {G : gG} {A : Nat → Prop} {Q : State → Prop} {q : Nat → Nat} (C : xC p s m9 args meth c G A 4 cX3_unlikeErasures RX3 wsX3_unlikeErasures) (hq : gD A q shM.length) (m : gM) (h : gN) : ∀ (n : Nat) (z : Int32 × Int32 × Int32), rOk (L_r_unlikeErasures_18 m) (K_r_unlikeErasures_18 m) n z → (∀ z' : Int32 × Int32 × Int32, run (L_r_unlikeErasures_18 m) n z = z' → xJ p l e rm_r_unlikeErasures s m9 args below meth c G A 4 Q 0 0 shM q m h [(0, .ref (q 0)), (1, .int z'.1), (2, .int z'.2.1), (3, .int z'.2.2)] [] 84) → xJ p l e rm_r_unlikeErasures s m9 args below meth c G A 4 Q 0 0 shM q m h [(0, .ref (q 0)), (1, .int z.1), (2, .int z.2.1), (3, .int z.2.2)] [] 18 := by
  intro n
  induction n with
  | zero =>
    intro z hok _
    exact rOk_0 hok
  | succ n ih =>
    intro z hok K0
    have hnx := rOk_2 hok
    have hok := rOk_1 hok
    have hf := L_r_unlikeErasures_18.eq_1 m z
    have hok := Eq.mp (K_r_unlikeErasures_18.eq_1 m z) hok
    refine x_iload_n C dX3_unlikeErasures_18 rfl 3 rfl ?_
    refine x_bipush (v := (12 : Int32)) C dX3_unlikeErasures_19 (by decide) ?_
    refine x_icmp_ge (tgt := 84) C dX3_unlikeErasures_21 (by decide) (fun c1 => ?_) (fun c1 => ?_)
    · have hf := hf.trans (if_pos c1)
      have hok := g_ip c1 hok
      exact K0 ((z.1, z.2.1, z.2.2)) (run_f hf)
    · have hf := hf.trans (if_neg c1)
      have hok := g_in c1 hok
      refine x_aload_n C dX3_unlikeErasures_24 rfl 0 rfl ?_
      refine x_get (v := .ref (q 1)) C in_X3_unlikeErasures_3 0 rfl rfl 0 (by decide) k_X3_unlikeErasures_7 rfl rfl dX3_unlikeErasures_25 ?_
      refine x_bipush (v := (120 : Int32)) C dX3_unlikeErasures_28 (by decide) ?_
      refine x_iload_n C dX3_unlikeErasures_30 rfl 3 rfl ?_
      refine x_iadd C dX3_unlikeErasures_31 ?_
      have s2 := And.left hok
      have hok := And.right hok
      refine x_iald (n := 364) (v := (m 1 ((120 : Int32) + z.2.2).toNatClampNeg)) C 1 rfl s2 rfl dX3_unlikeErasures_32 ?_
      refine x_iload_n C dX3_unlikeErasures_33 rfl 1 rfl ?_
      refine x_icmp_ge (tgt := 49) C dX3_unlikeErasures_34 (by decide) (fun c3 => ?_) (fun c3 => ?_)
      · have hf := hf.trans (if_pos c3)
        have hok := g_ip c3 hok
        refine x_iload_n C dX3_unlikeErasures_49 rfl 1 rfl ?_
        refine x_istore_n (lv' := [(0, .ref (q 0)), (1, .int z.1), (2, .int z.2.1), (3, .int z.2.2)]) C dX3_unlikeErasures_50 rfl (by decide) [1, 0, 2, 3] rfl ?_
        refine x_aload_n C dX3_unlikeErasures_51 rfl 0 rfl ?_
        refine x_get (v := .ref (q 1)) C in_X3_unlikeErasures_3 0 rfl rfl 0 (by decide) k_X3_unlikeErasures_7 rfl rfl dX3_unlikeErasures_52 ?_
        refine x_bipush (v := (120 : Int32)) C dX3_unlikeErasures_55 (by decide) ?_
        refine x_iload_n C dX3_unlikeErasures_57 rfl 3 rfl ?_
        refine x_iadd C dX3_unlikeErasures_58 ?_
        have s4 := And.left hok
        have hok := And.right hok
        refine x_iald (n := 364) (v := (m 1 ((120 : Int32) + z.2.2).toNatClampNeg)) C 1 rfl s4 rfl dX3_unlikeErasures_59 ?_
        refine x_iload_n C dX3_unlikeErasures_60 rfl 2 rfl ?_
        refine x_icmp_le (tgt := 76) C dX3_unlikeErasures_61 (by decide) (fun c5 => ?_) (fun c5 => ?_)
        · have hf := hf.trans (if_pos c5)
          have hok := g_ip c5 hok
          refine x_iload_n C dX3_unlikeErasures_76 rfl 2 rfl ?_
          refine x_istore_n (lv' := [(0, .ref (q 0)), (1, .int z.1), (2, .int z.2.1), (3, .int z.2.2)]) C dX3_unlikeErasures_77 rfl (by decide) [1, 2, 0, 3] rfl ?_
          obtain ⟨z6, hz6⟩ : ∃ y9 : Int32, y9 = (z.2.2 + (1 : Int32)) := ⟨_, rfl⟩
          have hf := hf.trans (g_let_eq hz6)
          have hok := g_let_p hz6 hok
          refine x_iinc (v := z6) (lv' := [(0, .ref (q 0)), (1, .int z.1), (2, .int z.2.1), (3, .int z6)]) C dX3_unlikeErasures_78 3 rfl hz6.symm (by decide) [1, 2, 3, 0] rfl ?_
          refine x_goto (tgt := 18) C dX3_unlikeErasures_81 (by decide) ?_
          exact ih ((z.1, z.2.1, z6)) (rOk_t hnx hf) (fun z' hz => K0 z' ((run_t hf).trans hz))
        · have hf := hf.trans (if_neg c5)
          have hok := g_in c5 hok
          refine x_aload_n C dX3_unlikeErasures_64 rfl 0 rfl ?_
          refine x_get (v := .ref (q 1)) C in_X3_unlikeErasures_3 0 rfl rfl 0 (by decide) k_X3_unlikeErasures_7 rfl rfl dX3_unlikeErasures_65 ?_
          refine x_bipush (v := (120 : Int32)) C dX3_unlikeErasures_68 (by decide) ?_
          refine x_iload_n C dX3_unlikeErasures_70 rfl 3 rfl ?_
          refine x_iadd C dX3_unlikeErasures_71 ?_
          have s7 := And.left hok
          have hok := And.right hok
          refine x_iald (n := 364) (v := (m 1 ((120 : Int32) + z.2.2).toNatClampNeg)) C 1 rfl s7 rfl dX3_unlikeErasures_72 ?_
          refine x_goto (tgt := 77) C dX3_unlikeErasures_73 (by decide) ?_
          obtain ⟨z8, hz8⟩ : ∃ y9 : Int32, y9 = (m 1 ((120 : Int32) + z.2.2).toNatClampNeg) := ⟨_, rfl⟩
          have hf := hf.trans (g_let_eq hz8)
          have hok := g_let_p hz8 hok
          refine x_topi hz8 ?_
          refine x_istore_n (lv' := [(0, .ref (q 0)), (1, .int z.1), (2, .int z8), (3, .int z.2.2)]) C dX3_unlikeErasures_77 rfl (by decide) [1, 2, 0, 3] rfl ?_
          obtain ⟨z9, hz9⟩ : ∃ y9 : Int32, y9 = (z.2.2 + (1 : Int32)) := ⟨_, rfl⟩
          have hf := hf.trans (g_let_eq hz9)
          have hok := g_let_p hz9 hok
          refine x_iinc (v := z9) (lv' := [(0, .ref (q 0)), (1, .int z.1), (2, .int z8), (3, .int z9)]) C dX3_unlikeErasures_78 3 rfl hz9.symm (by decide) [1, 2, 3, 0] rfl ?_
          refine x_goto (tgt := 18) C dX3_unlikeErasures_81 (by decide) ?_
          exact ih ((z.1, z8, z9)) (rOk_t hnx hf) (fun z' hz => K0 z' ((run_t hf).trans hz))
      · have hf := hf.trans (if_neg c3)
        have hok := g_in c3 hok
        refine x_aload_n C dX3_unlikeErasures_37 rfl 0 rfl ?_
        refine x_get (v := .ref (q 1)) C in_X3_unlikeErasures_3 0 rfl rfl 0 (by decide) k_X3_unlikeErasures_7 rfl rfl dX3_unlikeErasures_38 ?_
        refine x_bipush (v := (120 : Int32)) C dX3_unlikeErasures_41 (by decide) ?_
        refine x_iload_n C dX3_unlikeErasures_43 rfl 3 rfl ?_
        refine x_iadd C dX3_unlikeErasures_44 ?_
        have s10 := And.left hok
        have hok := And.right hok
        refine x_iald (n := 364) (v := (m 1 ((120 : Int32) + z.2.2).toNatClampNeg)) C 1 rfl s10 rfl dX3_unlikeErasures_45 ?_
        refine x_goto (tgt := 50) C dX3_unlikeErasures_46 (by decide) ?_
        obtain ⟨z11, hz11⟩ : ∃ y9 : Int32, y9 = (m 1 ((120 : Int32) + z.2.2).toNatClampNeg) := ⟨_, rfl⟩
        have hf := hf.trans (g_let_eq hz11)
        have hok := g_let_p hz11 hok
        refine x_topi hz11 ?_
        refine x_istore_n (lv' := [(0, .ref (q 0)), (1, .int z11), (2, .int z.2.1), (3, .int z.2.2)]) C dX3_unlikeErasures_50 rfl (by decide) [1, 0, 2, 3] rfl ?_
        refine x_aload_n C dX3_unlikeErasures_51 rfl 0 rfl ?_
        refine x_get (v := .ref (q 1)) C in_X3_unlikeErasures_3 0 rfl rfl 0 (by decide) k_X3_unlikeErasures_7 rfl rfl dX3_unlikeErasures_52 ?_
        refine x_bipush (v := (120 : Int32)) C dX3_unlikeErasures_55 (by decide) ?_
        refine x_iload_n C dX3_unlikeErasures_57 rfl 3 rfl ?_
        refine x_iadd C dX3_unlikeErasures_58 ?_
        have s12 := And.left hok
        have hok := And.right hok
        refine x_iald (n := 364) (v := (m 1 ((120 : Int32) + z.2.2).toNatClampNeg)) C 1 rfl s12 rfl dX3_unlikeErasures_59 ?_
        refine x_iload_n C dX3_unlikeErasures_60 rfl 2 rfl ?_
        refine x_icmp_le (tgt := 76) C dX3_unlikeErasures_61 (by decide) (fun c13 => ?_) (fun c13 => ?_)
        · have hf := hf.trans (if_pos c13)
          have hok := g_ip c13 hok
          refine x_iload_n C dX3_unlikeErasures_76 rfl 2 rfl ?_
          refine x_istore_n (lv' := [(0, .ref (q 0)), (1, .int z11), (2, .int z.2.1), (3, .int z.2.2)]) C dX3_unlikeErasures_77 rfl (by decide) [1, 2, 0, 3] rfl ?_
          obtain ⟨z14, hz14⟩ : ∃ y9 : Int32, y9 = (z.2.2 + (1 : Int32)) := ⟨_, rfl⟩
          have hf := hf.trans (g_let_eq hz14)
          have hok := g_let_p hz14 hok
          refine x_iinc (v := z14) (lv' := [(0, .ref (q 0)), (1, .int z11), (2, .int z.2.1), (3, .int z14)]) C dX3_unlikeErasures_78 3 rfl hz14.symm (by decide) [1, 2, 3, 0] rfl ?_
          refine x_goto (tgt := 18) C dX3_unlikeErasures_81 (by decide) ?_
          exact ih ((z11, z.2.1, z14)) (rOk_t hnx hf) (fun z' hz => K0 z' ((run_t hf).trans hz))
        · have hf := hf.trans (if_neg c13)
          have hok := g_in c13 hok
          refine x_aload_n C dX3_unlikeErasures_64 rfl 0 rfl ?_
          refine x_get (v := .ref (q 1)) C in_X3_unlikeErasures_3 0 rfl rfl 0 (by decide) k_X3_unlikeErasures_7 rfl rfl dX3_unlikeErasures_65 ?_
          refine x_bipush (v := (120 : Int32)) C dX3_unlikeErasures_68 (by decide) ?_
          refine x_iload_n C dX3_unlikeErasures_70 rfl 3 rfl ?_
          refine x_iadd C dX3_unlikeErasures_71 ?_
          have s15 := And.left hok
          have hok := And.right hok
          refine x_iald (n := 364) (v := (m 1 ((120 : Int32) + z.2.2).toNatClampNeg)) C 1 rfl s15 rfl dX3_unlikeErasures_72 ?_
          refine x_goto (tgt := 77) C dX3_unlikeErasures_73 (by decide) ?_
          obtain ⟨z16, hz16⟩ : ∃ y9 : Int32, y9 = (m 1 ((120 : Int32) + z.2.2).toNatClampNeg) := ⟨_, rfl⟩
          have hf := hf.trans (g_let_eq hz16)
          have hok := g_let_p hz16 hok
          refine x_topi hz16 ?_
          refine x_istore_n (lv' := [(0, .ref (q 0)), (1, .int z11), (2, .int z16), (3, .int z.2.2)]) C dX3_unlikeErasures_77 rfl (by decide) [1, 2, 0, 3] rfl ?_
          obtain ⟨z17, hz17⟩ : ∃ y9 : Int32, y9 = (z.2.2 + (1 : Int32)) := ⟨_, rfl⟩
          have hf := hf.trans (g_let_eq hz17)
          have hok := g_let_p hz17 hok
          refine x_iinc (v := z17) (lv' := [(0, .ref (q 0)), (1, .int z11), (2, .int z16), (3, .int z17)]) C dX3_unlikeErasures_78 3 rfl hz17.symm (by decide) [1, 2, 3, 0] rfl ?_
          refine x_goto (tgt := 18) C dX3_unlikeErasures_81 (by decide) ?_
          exact ih ((z11, z16, z17)) (rOk_t hnx hf) (fun z' hz => K0 z' ((run_t hf).trans hz))
noncomputable def f_r_unlikeErasures (m : gM) : Int32 := g_let ((m 1 (120 : Int32).toNatClampNeg)) (fun z1 : Int32 => g_let ((m 1 (120 : Int32).toNatClampNeg)) (fun z2 : Int32 => g_let (run (L_r_unlikeErasures_18 m) 400 ((z1, z2, (1 : Int32)))) (fun z4 : Int32 × Int32 × Int32 => (z4.2.1 - z4.1))))
noncomputable def o_r_unlikeErasures (m : gM) : Prop := g_let ((m 1 (120 : Int32).toNatClampNeg)) (fun z1 : Int32 => g_let ((m 1 (120 : Int32).toNatClampNeg)) (fun z2 : Int32 => (rOk (L_r_unlikeErasures_18 m) (K_r_unlikeErasures_18 m) 400 ((z1, z2, (1 : Int32)))) ∧ (g_let (run (L_r_unlikeErasures_18 m) 400 ((z1, z2, (1 : Int32)))) (fun z4 : Int32 × Int32 × Int32 => True))))
set_option maxRecDepth 100000 in
set_option maxHeartbeats 4000000 in
theorem c_r_unlikeErasures (l : Launch) (G : gG) (q : Nat → Nat) (m : gM) (h : gN) (hok : o_r_unlikeErasures m) : gMi l yX3_unlikeErasures wsX3_unlikeErasures rm_r_unlikeErasures G shM q m h [.ref (q 0)] m h (f_r_unlikeErasures m) := by
  intro sz
  refine g_met (cc := cX3_unlikeErasures) (maxL := 4) (ret := (some .int)) (own := RX3) (Qc := fun sz => gQi G shM q m h sz (f_r_unlikeErasures m)) (by decide) rfl rfl (Nat.le_of_ble_eq_true rfl) (fun p e s m9 below meth c C hq hr => ?_)
  refine x_lv (lv' := [(0, .ref (q 0))]) [0] rfl ?_
  have hf := f_r_unlikeErasures.eq_1 m
  have hok := Eq.mp (o_r_unlikeErasures.eq_1 m) hok
  refine x_aload_n C dX3_unlikeErasures_0 rfl 0 rfl ?_
  refine x_get (v := .ref (q 1)) C in_X3_unlikeErasures_3 0 rfl rfl 0 (by decide) k_X3_unlikeErasures_7 rfl rfl dX3_unlikeErasures_1 ?_
  refine x_bipush (v := (120 : Int32)) C dX3_unlikeErasures_4 (by decide) ?_
  refine x_iald (n := 364) (v := (m 1 (120 : Int32).toNatClampNeg)) C 1 rfl (by unfold vp_in; decide) rfl dX3_unlikeErasures_6 ?_
  obtain ⟨z1, hz1⟩ : ∃ y9 : Int32, y9 = (m 1 (120 : Int32).toNatClampNeg) := ⟨_, rfl⟩
  have hf := hf.trans (g_let_eq hz1)
  have hok := g_let_p hz1 hok
  refine x_topi hz1 ?_
  refine x_istore_n (lv' := [(0, .ref (q 0)), (1, .int z1)]) C dX3_unlikeErasures_7 rfl (by decide) [1, 0] rfl ?_
  refine x_aload_n C dX3_unlikeErasures_8 rfl 0 rfl ?_
  refine x_get (v := .ref (q 1)) C in_X3_unlikeErasures_3 0 rfl rfl 0 (by decide) k_X3_unlikeErasures_7 rfl rfl dX3_unlikeErasures_9 ?_
  refine x_bipush (v := (120 : Int32)) C dX3_unlikeErasures_12 (by decide) ?_
  refine x_iald (n := 364) (v := (m 1 (120 : Int32).toNatClampNeg)) C 1 rfl (by unfold vp_in; decide) rfl dX3_unlikeErasures_14 ?_
  obtain ⟨z2, hz2⟩ : ∃ y9 : Int32, y9 = (m 1 (120 : Int32).toNatClampNeg) := ⟨_, rfl⟩
  have hf := hf.trans (g_let_eq hz2)
  have hok := g_let_p hz2 hok
  refine x_topi hz2 ?_
  refine x_istore_n (lv' := [(0, .ref (q 0)), (1, .int z1), (2, .int z2)]) C dX3_unlikeErasures_15 rfl (by decide) [1, 2, 0] rfl ?_
  refine x_iconst (v := (1 : Int32)) C dX3_unlikeErasures_16 (by decide) ?_
  refine x_istore_n (lv' := [(0, .ref (q 0)), (1, .int z1), (2, .int z2), (3, .int (1 : Int32))]) C dX3_unlikeErasures_17 rfl (by decide) [1, 2, 3, 0] rfl ?_
  have s3 := And.left hok
  have hok := And.right hok
  refine lp_r_unlikeErasures_18 C hq m h 400 ((z1, z2, (1 : Int32))) s3 (fun z4 hz4 => ?_)
  have hf := hf.trans (g_let_eq hz4.symm)
  have hok := g_let_p hz4.symm hok
  refine x_iload_n C dX3_unlikeErasures_84 rfl 2 rfl ?_
  refine x_iload_n C dX3_unlikeErasures_85 rfl 1 rfl ?_
  refine x_isub C dX3_unlikeErasures_86 ?_
  exact g_iret C hr rfl dX3_unlikeErasures_87 hf.symm rfl rfl
set_option maxRecDepth 20000 in
theorem in_X3_counted_3 : ∀ w ∈ u_ws RX3 TX3 12, w ∈ wsX3_counted := by decide +kernel
set_option maxRecDepth 20000 in
theorem k_X3_counted_33 : Cond.fieldLink RX3 33 "HintedPagesModel" "kept" "I" ∈ wsX3_counted := by decide +kernel
set_option maxRecDepth 20000 in
theorem k_X3_counted_7 : Cond.fieldLink RX3 7 "HintedPagesModel" "now" "[I" ∈ wsX3_counted := by decide +kernel
abbrev rm_r_counted : Room := { frames := 4, cells := 0, slots := 0, locals := 92 }
noncomputable def f_r_counted (m : gM) (a1 : Int32) : Int32 := (if a1 = (0 : Int32) then (f_r_allSlots m (0 : Int32)) else (if a1 = (1 : Int32) then (f_r_inState (g_sel [1] m) (a1 - (1 : Int32))) else (if a1 = (2 : Int32) then (f_r_inState (g_sel [1] m) (a1 - (1 : Int32))) else (if a1 = (3 : Int32) then (f_r_inState (g_sel [1] m) (a1 - (1 : Int32))) else (if a1 = (4 : Int32) then (f_r_allSlots m (a1 - (3 : Int32))) else (if a1 = (5 : Int32) then (f_r_allSlots m (a1 - (3 : Int32))) else (if a1 = (6 : Int32) then (m 1 (360 : Int32).toNatClampNeg) else (if a1 = (7 : Int32) then (m 1 (361 : Int32).toNatClampNeg) else (if a1 = (8 : Int32) then (m 1 (362 : Int32).toNatClampNeg) else (if a1 = (9 : Int32) then (f_r_unlikeErasures m) else (if a1 = (10 : Int32) then (f_r_victim (g_sel [1] m)) else (m 0 3))))))))))))
noncomputable def o_r_counted (m : gM) (a1 : Int32) : Prop := (if a1 = (0 : Int32) then (o_r_allSlots m (0 : Int32)) ∧ (True) else (if a1 = (1 : Int32) then (o_r_inState (g_sel [1] m) (a1 - (1 : Int32))) ∧ (True) else (if a1 = (2 : Int32) then (o_r_inState (g_sel [1] m) (a1 - (1 : Int32))) ∧ (True) else (if a1 = (3 : Int32) then (o_r_inState (g_sel [1] m) (a1 - (1 : Int32))) ∧ (True) else (if a1 = (4 : Int32) then (o_r_allSlots m (a1 - (3 : Int32))) ∧ (True) else (if a1 = (5 : Int32) then (o_r_allSlots m (a1 - (3 : Int32))) ∧ (True) else (if a1 = (6 : Int32) then True else (if a1 = (7 : Int32) then True else (if a1 = (8 : Int32) then True else (if a1 = (9 : Int32) then (o_r_unlikeErasures m) ∧ (True) else (if a1 = (10 : Int32) then (o_r_victim (g_sel [1] m)) ∧ (True) else True)))))))))))
set_option maxRecDepth 100000 in
set_option maxHeartbeats 4000000 in
theorem c_r_counted (l : Launch) (G : gG) (q : Nat → Nat) (m : gM) (h : gN) (a1 : Int32) (hok : o_r_counted m a1) : gMi l yX3_counted wsX3_counted rm_r_counted G shM q m h [.ref (q 0), .int a1] m h (f_r_counted m a1) := by
  intro sz
  refine g_met (cc := cX3_counted) (maxL := 2) (ret := (some .int)) (own := RX3) (Qc := fun sz => gQi G shM q m h sz (f_r_counted m a1)) (by decide) rfl rfl (Nat.le_of_ble_eq_true rfl) (fun p e s m9 below meth c C hq hr => ?_)
  refine x_lv (lv' := [(0, .ref (q 0)), (1, .int a1)]) [0, 1] rfl ?_
  have hf := f_r_counted.eq_1 m a1
  have hok := Eq.mp (o_r_counted.eq_1 m a1) hok
  refine x_iload_n C dX3_counted_0 rfl 1 rfl ?_
  by_cases c1 : a1 = (0 : Int32)
  · have hf := hf.trans (if_pos c1)
    have hok := g_ip c1 hok
    refine x_tin (tgt := 60) C dX3_counted_1 c1 (by decide) (by decide) rfl (by decide) ?_
    refine x_aload_n C dX3_counted_60 rfl 0 rfl ?_
    refine x_iconst (v := (0 : Int32)) C dX3_counted_61 (by decide) ?_
    have s2 := And.left hok
    have hok := And.right hok
    refine x_callVi (n := 1) C hq gFr_same (c_r_allSlots l G q m h (0 : Int32) s2) (cwV 1 C.2.2.2.2.2.1 gX3_counted_X3_allSlots rfl rfl rfl (by decide +kernel) ⟨Nat.le_of_ble_eq_true rfl, Nat.le_of_ble_eq_true rfl⟩) rfl rfl rfl rfl (Nat.le_of_ble_eq_true rfl) dX3_counted_62 (Nat.zero_le _) (Nat.zero_le _) ?_
    exact g_iret C hr rfl dX3_counted_65 hf.symm rfl rfl
  · have hf := hf.trans (if_neg c1)
    have hok := g_in c1 hok
    by_cases c3 : a1 = (1 : Int32)
    · have hf := hf.trans (if_pos c3)
      have hok := g_ip c3 hok
      refine x_tin (tgt := 66) C dX3_counted_1 c3 (by decide) (by decide) rfl (by decide) ?_
      refine x_aload_n C dX3_counted_66 rfl 0 rfl ?_
      refine x_get (v := .ref (q 1)) C in_X3_counted_3 0 rfl rfl 0 (by decide) k_X3_counted_7 rfl rfl dX3_counted_67 ?_
      refine x_iload_n C dX3_counted_70 rfl 1 rfl ?_
      refine x_iconst (v := (1 : Int32)) C dX3_counted_71 (by decide) ?_
      refine x_isub C dX3_counted_72 ?_
      have s4 := And.left hok
      have hok := And.right hok
      refine x_callSi (n := 2) C hq (gFr_pure gs_M_r_1) (c_r_inState l G (g_sel [1] q) (g_sel [1] m) (g_sel [1] h) (a1 - (1 : Int32)) s4) (va_cwS 2 C.2.2.2.2.2.1 gX3_counted_X3_inState rfl rfl rfl (by decide +kernel) ⟨Nat.le_of_ble_eq_true rfl, Nat.le_of_ble_eq_true rfl⟩) rfl rfl (Nat.le_of_ble_eq_true rfl) dX3_counted_73 (Nat.zero_le _) (Nat.zero_le _) ?_
      exact g_iret C hr rfl dX3_counted_76 hf.symm rfl rfl
    · have hf := hf.trans (if_neg c3)
      have hok := g_in c3 hok
      by_cases c5 : a1 = (2 : Int32)
      · have hf := hf.trans (if_pos c5)
        have hok := g_ip c5 hok
        refine x_tin (tgt := 66) C dX3_counted_1 c5 (by decide) (by decide) rfl (by decide) ?_
        refine x_aload_n C dX3_counted_66 rfl 0 rfl ?_
        refine x_get (v := .ref (q 1)) C in_X3_counted_3 0 rfl rfl 0 (by decide) k_X3_counted_7 rfl rfl dX3_counted_67 ?_
        refine x_iload_n C dX3_counted_70 rfl 1 rfl ?_
        refine x_iconst (v := (1 : Int32)) C dX3_counted_71 (by decide) ?_
        refine x_isub C dX3_counted_72 ?_
        have s6 := And.left hok
        have hok := And.right hok
        refine x_callSi (n := 2) C hq (gFr_pure gs_M_r_1) (c_r_inState l G (g_sel [1] q) (g_sel [1] m) (g_sel [1] h) (a1 - (1 : Int32)) s6) (va_cwS 2 C.2.2.2.2.2.1 gX3_counted_X3_inState rfl rfl rfl (by decide +kernel) ⟨Nat.le_of_ble_eq_true rfl, Nat.le_of_ble_eq_true rfl⟩) rfl rfl (Nat.le_of_ble_eq_true rfl) dX3_counted_73 (Nat.zero_le _) (Nat.zero_le _) ?_
        exact g_iret C hr rfl dX3_counted_76 hf.symm rfl rfl
      · have hf := hf.trans (if_neg c5)
        have hok := g_in c5 hok
        by_cases c7 : a1 = (3 : Int32)
        · have hf := hf.trans (if_pos c7)
          have hok := g_ip c7 hok
          refine x_tin (tgt := 66) C dX3_counted_1 c7 (by decide) (by decide) rfl (by decide) ?_
          refine x_aload_n C dX3_counted_66 rfl 0 rfl ?_
          refine x_get (v := .ref (q 1)) C in_X3_counted_3 0 rfl rfl 0 (by decide) k_X3_counted_7 rfl rfl dX3_counted_67 ?_
          refine x_iload_n C dX3_counted_70 rfl 1 rfl ?_
          refine x_iconst (v := (1 : Int32)) C dX3_counted_71 (by decide) ?_
          refine x_isub C dX3_counted_72 ?_
          have s8 := And.left hok
          have hok := And.right hok
          refine x_callSi (n := 2) C hq (gFr_pure gs_M_r_1) (c_r_inState l G (g_sel [1] q) (g_sel [1] m) (g_sel [1] h) (a1 - (1 : Int32)) s8) (va_cwS 2 C.2.2.2.2.2.1 gX3_counted_X3_inState rfl rfl rfl (by decide +kernel) ⟨Nat.le_of_ble_eq_true rfl, Nat.le_of_ble_eq_true rfl⟩) rfl rfl (Nat.le_of_ble_eq_true rfl) dX3_counted_73 (Nat.zero_le _) (Nat.zero_le _) ?_
          exact g_iret C hr rfl dX3_counted_76 hf.symm rfl rfl
        · have hf := hf.trans (if_neg c7)
          have hok := g_in c7 hok
          by_cases c9 : a1 = (4 : Int32)
          · have hf := hf.trans (if_pos c9)
            have hok := g_ip c9 hok
            refine x_tin (tgt := 77) C dX3_counted_1 c9 (by decide) (by decide) rfl (by decide) ?_
            refine x_aload_n C dX3_counted_77 rfl 0 rfl ?_
            refine x_iload_n C dX3_counted_78 rfl 1 rfl ?_
            refine x_iconst (v := (3 : Int32)) C dX3_counted_79 (by decide) ?_
            refine x_isub C dX3_counted_80 ?_
            have s10 := And.left hok
            have hok := And.right hok
            refine x_callVi (n := 1) C hq gFr_same (c_r_allSlots l G q m h (a1 - (3 : Int32)) s10) (cwV 1 C.2.2.2.2.2.1 gX3_counted_X3_allSlots rfl rfl rfl (by decide +kernel) ⟨Nat.le_of_ble_eq_true rfl, Nat.le_of_ble_eq_true rfl⟩) rfl rfl rfl rfl (Nat.le_of_ble_eq_true rfl) dX3_counted_81 (Nat.zero_le _) (Nat.zero_le _) ?_
            exact g_iret C hr rfl dX3_counted_84 hf.symm rfl rfl
          · have hf := hf.trans (if_neg c9)
            have hok := g_in c9 hok
            by_cases c11 : a1 = (5 : Int32)
            · have hf := hf.trans (if_pos c11)
              have hok := g_ip c11 hok
              refine x_tin (tgt := 77) C dX3_counted_1 c11 (by decide) (by decide) rfl (by decide) ?_
              refine x_aload_n C dX3_counted_77 rfl 0 rfl ?_
              refine x_iload_n C dX3_counted_78 rfl 1 rfl ?_
              refine x_iconst (v := (3 : Int32)) C dX3_counted_79 (by decide) ?_
              refine x_isub C dX3_counted_80 ?_
              have s12 := And.left hok
              have hok := And.right hok
              refine x_callVi (n := 1) C hq gFr_same (c_r_allSlots l G q m h (a1 - (3 : Int32)) s12) (cwV 1 C.2.2.2.2.2.1 gX3_counted_X3_allSlots rfl rfl rfl (by decide +kernel) ⟨Nat.le_of_ble_eq_true rfl, Nat.le_of_ble_eq_true rfl⟩) rfl rfl rfl rfl (Nat.le_of_ble_eq_true rfl) dX3_counted_81 (Nat.zero_le _) (Nat.zero_le _) ?_
              exact g_iret C hr rfl dX3_counted_84 hf.symm rfl rfl
            · have hf := hf.trans (if_neg c11)
              have hok := g_in c11 hok
              by_cases c13 : a1 = (6 : Int32)
              · have hf := hf.trans (if_pos c13)
                have hok := g_ip c13 hok
                refine x_tin (tgt := 85) C dX3_counted_1 c13 (by decide) (by decide) rfl (by decide) ?_
                refine x_aload_n C dX3_counted_85 rfl 0 rfl ?_
                refine x_get (v := .ref (q 1)) C in_X3_counted_3 0 rfl rfl 0 (by decide) k_X3_counted_7 rfl rfl dX3_counted_86 ?_
                refine x_sipush (v := (360 : Int32)) C dX3_counted_89 (by decide) ?_
                refine x_iald (n := 364) (v := (m 1 (360 : Int32).toNatClampNeg)) C 1 rfl (by unfold vp_in; decide) rfl dX3_counted_92 ?_
                exact g_iret C hr rfl dX3_counted_93 hf.symm rfl rfl
              · have hf := hf.trans (if_neg c13)
                have hok := g_in c13 hok
                by_cases c14 : a1 = (7 : Int32)
                · have hf := hf.trans (if_pos c14)
                  have hok := g_ip c14 hok
                  refine x_tin (tgt := 94) C dX3_counted_1 c14 (by decide) (by decide) rfl (by decide) ?_
                  refine x_aload_n C dX3_counted_94 rfl 0 rfl ?_
                  refine x_get (v := .ref (q 1)) C in_X3_counted_3 0 rfl rfl 0 (by decide) k_X3_counted_7 rfl rfl dX3_counted_95 ?_
                  refine x_sipush (v := (361 : Int32)) C dX3_counted_98 (by decide) ?_
                  refine x_iald (n := 364) (v := (m 1 (361 : Int32).toNatClampNeg)) C 1 rfl (by unfold vp_in; decide) rfl dX3_counted_101 ?_
                  exact g_iret C hr rfl dX3_counted_102 hf.symm rfl rfl
                · have hf := hf.trans (if_neg c14)
                  have hok := g_in c14 hok
                  by_cases c15 : a1 = (8 : Int32)
                  · have hf := hf.trans (if_pos c15)
                    have hok := g_ip c15 hok
                    refine x_tin (tgt := 103) C dX3_counted_1 c15 (by decide) (by decide) rfl (by decide) ?_
                    refine x_aload_n C dX3_counted_103 rfl 0 rfl ?_
                    refine x_get (v := .ref (q 1)) C in_X3_counted_3 0 rfl rfl 0 (by decide) k_X3_counted_7 rfl rfl dX3_counted_104 ?_
                    refine x_sipush (v := (362 : Int32)) C dX3_counted_107 (by decide) ?_
                    refine x_iald (n := 364) (v := (m 1 (362 : Int32).toNatClampNeg)) C 1 rfl (by unfold vp_in; decide) rfl dX3_counted_110 ?_
                    exact g_iret C hr rfl dX3_counted_111 hf.symm rfl rfl
                  · have hf := hf.trans (if_neg c15)
                    have hok := g_in c15 hok
                    by_cases c16 : a1 = (9 : Int32)
                    · have hf := hf.trans (if_pos c16)
                      have hok := g_ip c16 hok
                      refine x_tin (tgt := 112) C dX3_counted_1 c16 (by decide) (by decide) rfl (by decide) ?_
                      refine x_aload_n C dX3_counted_112 rfl 0 rfl ?_
                      have s17 := And.left hok
                      have hok := And.right hok
                      refine x_callVi (n := 0) C hq gFr_same (c_r_unlikeErasures l G q m h s17) (cwV 0 C.2.2.2.2.2.1 gX3_counted_X3_unlikeErasures rfl rfl rfl (by decide +kernel) ⟨Nat.le_of_ble_eq_true rfl, Nat.le_of_ble_eq_true rfl⟩) rfl rfl rfl rfl (Nat.le_of_ble_eq_true rfl) dX3_counted_113 (Nat.zero_le _) (Nat.zero_le _) ?_
                      exact g_iret C hr rfl dX3_counted_116 hf.symm rfl rfl
                    · have hf := hf.trans (if_neg c16)
                      have hok := g_in c16 hok
                      by_cases c18 : a1 = (10 : Int32)
                      · have hf := hf.trans (if_pos c18)
                        have hok := g_ip c18 hok
                        refine x_tin (tgt := 117) C dX3_counted_1 c18 (by decide) (by decide) rfl (by decide) ?_
                        refine x_aload_n C dX3_counted_117 rfl 0 rfl ?_
                        refine x_get (v := .ref (q 1)) C in_X3_counted_3 0 rfl rfl 0 (by decide) k_X3_counted_7 rfl rfl dX3_counted_118 ?_
                        have s19 := And.left hok
                        have hok := And.right hok
                        refine x_callSi (n := 1) C hq (gFr_pure gs_M_r_1) (c_r_victim l G (g_sel [1] q) (g_sel [1] m) (g_sel [1] h) s19) (va_cwS 1 C.2.2.2.2.2.1 gX3_counted_X3_victim rfl rfl rfl (by decide +kernel) ⟨Nat.le_of_ble_eq_true rfl, Nat.le_of_ble_eq_true rfl⟩) rfl rfl (Nat.le_of_ble_eq_true rfl) dX3_counted_121 (Nat.zero_le _) (Nat.zero_le _) ?_
                        exact g_iret C hr rfl dX3_counted_124 hf.symm rfl rfl
                      · have hf := hf.trans (if_neg c18)
                        have hok := g_in c18 hok
                        refine x_tout (tgt := 125) C dX3_counted_1 (by have wc1 := lv_neT (a := 0) c1 rfl; have wc3 := lv_neT (a := 1) c3 rfl; have wc5 := lv_neT (a := 2) c5 rfl; have wc7 := lv_neT (a := 3) c7 rfl; have wc9 := lv_neT (a := 4) c9 rfl; have wc11 := lv_neT (a := 5) c11 rfl; have wc13 := lv_neT (a := 6) c13 rfl; have wc14 := lv_neT (a := 7) c14 rfl; have wc15 := lv_neT (a := 8) c15 rfl; have wc16 := lv_neT (a := 9) c16 rfl; have wc18 := lv_neT (a := 10) c18 rfl; omega) (by decide) ?_
                        refine x_aload_n C dX3_counted_125 rfl 0 rfl ?_
                        refine x_get (v := .int (m 0 3)) C in_X3_counted_3 0 rfl rfl 3 (by decide) k_X3_counted_33 rfl rfl dX3_counted_126 ?_
                        exact g_iret C hr rfl dX3_counted_129 hf.symm rfl rfl
set_option maxRecDepth 20000 in
theorem in_X3_count_3 : ∀ w ∈ u_ws RX3 TX3 12, w ∈ wsX3_count := by decide +kernel
set_option maxRecDepth 20000 in
theorem k_X3_count_25 : Cond.fieldLink RX3 25 "HintedPagesModel" "thrown" "I" ∈ wsX3_count := by decide +kernel
abbrev rm_r_count : Room := { frames := 5, cells := 0, slots := 0, locals := 113 }
noncomputable def f_r_count (m : gM) (a1 : Int32) : Int32 × gM := g_let (g_set m 0 (upd (m 0) 6 (0 : Int32))) (fun z1 : gM => (if (f_r_in a1 (0 : Int32) (11 : Int32)) = 0 then g_let (f_r_fails z1 (1 : Int32)) (fun z5 : Int32 × gM => (z5.1, z5.2)) else ((f_r_counted z1 a1), z1)))
noncomputable def o_r_count (m : gM) (a1 : Int32) : Prop := g_let (g_set m 0 (upd (m 0) 6 (0 : Int32))) (fun z1 : gM => (o_r_in a1 (0 : Int32) (11 : Int32)) ∧ ((if (f_r_in a1 (0 : Int32) (11 : Int32)) = 0 then (o_r_fails z1 (1 : Int32)) ∧ (g_let (f_r_fails z1 (1 : Int32)) (fun z5 : Int32 × gM => True)) else (o_r_counted z1 a1) ∧ (True))))
set_option maxRecDepth 100000 in
set_option maxHeartbeats 4000000 in
theorem c_r_count (l : Launch) (G : gG) (q : Nat → Nat) (m : gM) (h : gN) (a1 : Int32) (hok : o_r_count m a1) : gMi l yX3_count wsX3_count rm_r_count G shM q m h [.ref (q 0), .int a1] ((f_r_count m a1).2) h ((f_r_count m a1).1) := by
  intro sz
  refine g_met (cc := cX3_count) (maxL := 2) (ret := (some .int)) (own := RX3) (Qc := fun sz => gQi G shM q ((f_r_count m a1).2) h sz ((f_r_count m a1).1)) (by decide) rfl rfl (Nat.le_of_ble_eq_true rfl) (fun p e s m9 below meth c C hq hr => ?_)
  refine x_lv (lv' := [(0, .ref (q 0)), (1, .int a1)]) [0, 1] rfl ?_
  have hf := f_r_count.eq_1 m a1
  have hok := Eq.mp (o_r_count.eq_1 m a1) hok
  refine x_aload_n C dX3_count_0 rfl 0 rfl ?_
  refine x_iconst (v := (0 : Int32)) C dX3_count_1 (by decide) ?_
  obtain ⟨z1, hz1⟩ : ∃ y9 : gM, y9 = g_set m 0 (upd (m 0) 6 (0 : Int32)) := ⟨_, rfl⟩
  have hf := hf.trans (g_let_eq hz1)
  have hok := g_let_p hz1 hok
  refine x_puti (μ' := z1) (ty := .int) C hq tyX3 tyX3_ok nmX3 in_X3_count_3 0 rfl rfl 6 (by decide) k_X3_count_25 rfl (tyX3_ok 6 (by decide)) rfl rfl rfl hz1 dX3_count_2 ?_
  refine x_iload_n C dX3_count_5 rfl 1 rfl ?_
  refine x_iconst (v := (0 : Int32)) C dX3_count_6 (by decide) ?_
  refine x_bipush (v := (11 : Int32)) C dX3_count_7 (by decide) ?_
  have s2 := And.left hok
  have hok := And.right hok
  refine x_callSi (n := 3) C hq (gFr_pure gs_M_0_) (c_r_in l G (g_sel [] q) (g_sel [] z1) (g_sel [] h) a1 (0 : Int32) (11 : Int32) s2) (va_cwS 3 C.2.2.2.2.2.1 gX3_count_X3_in rfl rfl rfl (by decide +kernel) ⟨Nat.le_of_ble_eq_true rfl, Nat.le_of_ble_eq_true rfl⟩) rfl rfl (Nat.le_of_ble_eq_true rfl) dX3_count_9 (Nat.zero_le _) (Nat.zero_le _) ?_
  refine x_if_eq (tgt := 23) C dX3_count_12 (by decide) (fun c3 => ?_) (fun c3 => ?_)
  · have hf := hf.trans (if_pos c3)
    have hok := g_ip c3 hok
    refine x_aload_n C dX3_count_23 rfl 0 rfl ?_
    refine x_iconst (v := (1 : Int32)) C dX3_count_24 (by decide) ?_
    have s4 := And.left hok
    have hok := And.right hok
    obtain ⟨z5, hz5⟩ : ∃ y9 : Int32 × gM, y9 = f_r_fails z1 (1 : Int32) := ⟨_, rfl⟩
    have hf := hf.trans (g_let_eq hz5)
    have hok := g_let_p hz5 hok
    have hmz5 : gMi l yX3_fails wsX3_fails rm_r_fails G shM q z1 h [.ref (q 0), .int (1 : Int32)] z5.2 h z5.1 := by rw [hz5]; exact c_r_fails l G q z1 h (1 : Int32) s4
    refine x_callVi (n := 1) C hq gFr_same (hmz5) (cwV 1 C.2.2.2.2.2.1 gX3_count_X3_fails rfl rfl rfl (by decide +kernel) ⟨Nat.le_of_ble_eq_true rfl, Nat.le_of_ble_eq_true rfl⟩) rfl rfl rfl rfl (Nat.le_of_ble_eq_true rfl) dX3_count_25 (Nat.zero_le _) (Nat.zero_le _) ?_
    exact g_iret C hr rfl dX3_count_28 (congrArg (fun z => z.1) hf).symm (congrArg (fun z => z.2) hf).symm rfl
  · have hf := hf.trans (if_neg c3)
    have hok := g_in c3 hok
    refine x_aload_n C dX3_count_15 rfl 0 rfl ?_
    refine x_iload_n C dX3_count_16 rfl 1 rfl ?_
    have s6 := And.left hok
    have hok := And.right hok
    refine x_callVi (n := 1) C hq gFr_same (c_r_counted l G q z1 h a1 s6) (cwV 1 C.2.2.2.2.2.1 gX3_count_X3_counted rfl rfl rfl (by decide +kernel) ⟨Nat.le_of_ble_eq_true rfl, Nat.le_of_ble_eq_true rfl⟩) rfl rfl rfl rfl (Nat.le_of_ble_eq_true rfl) dX3_count_17 (Nat.zero_le _) (Nat.zero_le _) ?_
    refine x_goto (tgt := 28) C dX3_count_20 (by decide) ?_
    exact g_iret C hr rfl dX3_count_28 (congrArg (fun z => z.1) hf).symm (congrArg (fun z => z.2) hf).symm rfl
set_option maxRecDepth 20000 in
theorem in_X3_setting_3 : ∀ w ∈ u_ws RX3 TX3 12, w ∈ wsX3_setting := by decide +kernel
set_option maxRecDepth 20000 in
theorem k_X3_setting_25 : Cond.fieldLink RX3 25 "HintedPagesModel" "thrown" "I" ∈ wsX3_setting := by decide +kernel
set_option maxRecDepth 20000 in
theorem k_X3_setting_7 : Cond.fieldLink RX3 7 "HintedPagesModel" "now" "[I" ∈ wsX3_setting := by decide +kernel
abbrev rm_r_setting : Room := { frames := 1, cells := 0, slots := 0, locals := 22 }
noncomputable def f_r_setting (m : gM) (a1 : Int32) : Int32 × gM := g_let (g_set m 0 (upd (m 0) 6 (0 : Int32))) (fun z1 : gM => (if (f_r_in a1 (0 : Int32) (1 : Int32)) = 0 then g_let (f_r_fails z1 (1 : Int32)) (fun z5 : Int32 × gM => (z5.1, z5.2)) else ((z1 1 ((358 : Int32) + a1).toNatClampNeg), z1)))
noncomputable def o_r_setting (m : gM) (a1 : Int32) : Prop := g_let (g_set m 0 (upd (m 0) 6 (0 : Int32))) (fun z1 : gM => (o_r_in a1 (0 : Int32) (1 : Int32)) ∧ ((if (f_r_in a1 (0 : Int32) (1 : Int32)) = 0 then (o_r_fails z1 (1 : Int32)) ∧ (g_let (f_r_fails z1 (1 : Int32)) (fun z5 : Int32 × gM => True)) else (vp_in ((358 : Int32) + a1) 364) ∧ (True))))
set_option maxRecDepth 100000 in
set_option maxHeartbeats 4000000 in
theorem c_r_setting (l : Launch) (G : gG) (q : Nat → Nat) (m : gM) (h : gN) (a1 : Int32) (hok : o_r_setting m a1) : gMi l yX3_setting wsX3_setting rm_r_setting G shM q m h [.ref (q 0), .int a1] ((f_r_setting m a1).2) h ((f_r_setting m a1).1) := by
  intro sz
  refine g_met (cc := cX3_setting) (maxL := 2) (ret := (some .int)) (own := RX3) (Qc := fun sz => gQi G shM q ((f_r_setting m a1).2) h sz ((f_r_setting m a1).1)) (by decide) rfl rfl (Nat.le_of_ble_eq_true rfl) (fun p e s m9 below meth c C hq hr => ?_)
  refine x_lv (lv' := [(0, .ref (q 0)), (1, .int a1)]) [0, 1] rfl ?_
  have hf := f_r_setting.eq_1 m a1
  have hok := Eq.mp (o_r_setting.eq_1 m a1) hok
  refine x_aload_n C dX3_setting_0 rfl 0 rfl ?_
  refine x_iconst (v := (0 : Int32)) C dX3_setting_1 (by decide) ?_
  obtain ⟨z1, hz1⟩ : ∃ y9 : gM, y9 = g_set m 0 (upd (m 0) 6 (0 : Int32)) := ⟨_, rfl⟩
  have hf := hf.trans (g_let_eq hz1)
  have hok := g_let_p hz1 hok
  refine x_puti (μ' := z1) (ty := .int) C hq tyX3 tyX3_ok nmX3 in_X3_setting_3 0 rfl rfl 6 (by decide) k_X3_setting_25 rfl (tyX3_ok 6 (by decide)) rfl rfl rfl hz1 dX3_setting_2 ?_
  refine x_iload_n C dX3_setting_5 rfl 1 rfl ?_
  refine x_iconst (v := (0 : Int32)) C dX3_setting_6 (by decide) ?_
  refine x_iconst (v := (1 : Int32)) C dX3_setting_7 (by decide) ?_
  have s2 := And.left hok
  have hok := And.right hok
  refine x_callSi (n := 3) C hq (gFr_pure gs_M_0_) (c_r_in l G (g_sel [] q) (g_sel [] z1) (g_sel [] h) a1 (0 : Int32) (1 : Int32) s2) (va_cwS 3 C.2.2.2.2.2.1 gX3_setting_X3_in rfl rfl rfl (by decide +kernel) ⟨Nat.le_of_ble_eq_true rfl, Nat.le_of_ble_eq_true rfl⟩) rfl rfl (Nat.le_of_ble_eq_true rfl) dX3_setting_8 (Nat.zero_le _) (Nat.zero_le _) ?_
  refine x_if_eq (tgt := 27) C dX3_setting_11 (by decide) (fun c3 => ?_) (fun c3 => ?_)
  · have hf := hf.trans (if_pos c3)
    have hok := g_ip c3 hok
    refine x_aload_n C dX3_setting_27 rfl 0 rfl ?_
    refine x_iconst (v := (1 : Int32)) C dX3_setting_28 (by decide) ?_
    have s4 := And.left hok
    have hok := And.right hok
    obtain ⟨z5, hz5⟩ : ∃ y9 : Int32 × gM, y9 = f_r_fails z1 (1 : Int32) := ⟨_, rfl⟩
    have hf := hf.trans (g_let_eq hz5)
    have hok := g_let_p hz5 hok
    have hmz5 : gMi l yX3_fails wsX3_fails rm_r_fails G shM q z1 h [.ref (q 0), .int (1 : Int32)] z5.2 h z5.1 := by rw [hz5]; exact c_r_fails l G q z1 h (1 : Int32) s4
    refine x_callVi (n := 1) C hq gFr_same (hmz5) (cwV 1 C.2.2.2.2.2.1 gX3_setting_X3_fails rfl rfl rfl (by decide +kernel) ⟨Nat.le_of_ble_eq_true rfl, Nat.le_of_ble_eq_true rfl⟩) rfl rfl rfl rfl (Nat.le_of_ble_eq_true rfl) dX3_setting_29 (Nat.zero_le _) (Nat.zero_le _) ?_
    exact g_iret C hr rfl dX3_setting_32 (congrArg (fun z => z.1) hf).symm (congrArg (fun z => z.2) hf).symm rfl
  · have hf := hf.trans (if_neg c3)
    have hok := g_in c3 hok
    refine x_aload_n C dX3_setting_14 rfl 0 rfl ?_
    refine x_get (v := .ref (q 1)) C in_X3_setting_3 0 rfl rfl 0 (by decide) k_X3_setting_7 rfl rfl dX3_setting_15 ?_
    refine x_sipush (v := (358 : Int32)) C dX3_setting_18 (by decide) ?_
    refine x_iload_n C dX3_setting_21 rfl 1 rfl ?_
    refine x_iadd C dX3_setting_22 ?_
    have s6 := And.left hok
    have hok := And.right hok
    refine x_iald (n := 364) (v := (z1 1 ((358 : Int32) + a1).toNatClampNeg)) C 1 rfl s6 rfl dX3_setting_23 ?_
    refine x_goto (tgt := 32) C dX3_setting_24 (by decide) ?_
    exact g_iret C hr rfl dX3_setting_32 (congrArg (fun z => z.1) hf).symm (congrArg (fun z => z.2) hf).symm rfl
set_option maxRecDepth 20000 in
theorem gs_M_l3_1_2 : gSub shM shl3 [1, 2] := ⟨by decide, rfl⟩
set_option maxRecDepth 20000 in
theorem gs_M_r_2 : gSub shM shr [2] := ⟨by decide, rfl⟩
set_option maxRecDepth 20000 in
theorem in_X3_written_3 : ∀ w ∈ u_ws RX3 TX3 12, w ∈ wsX3_written := by decide +kernel
set_option maxRecDepth 20000 in
theorem k_X3_written_13 : Cond.fieldLink RX3 13 "HintedPagesModel" "trial" "[I" ∈ wsX3_written := by decide +kernel
set_option maxRecDepth 20000 in
theorem k_X3_written_7 : Cond.fieldLink RX3 7 "HintedPagesModel" "now" "[I" ∈ wsX3_written := by decide +kernel
abbrev rm_r_written : Room := { frames := 6, cells := 0, slots := 0, locals := 138 }
noncomputable def f_r_written (m : gM) (a1 : Int32) (a2 : Int32) (a3 : Int32) : Int32 × gM := g_let (f_r_lays3 (g_sel [1, 2] m) (0 : Int32) (0 : Int32)) (fun z2 : gM => g_let (g_mrg [1, 2] m z2) (fun z3 : gM => g_let (f_r_writes (g_sel [2] z3) a1 a2) (fun z5 : Int32 × gM => g_let (g_mrg [2] z3 z5.2) (fun z6 : gM => (if a3 = 0 then (z5.1, z6) else (if a3 = (1 : Int32) then (((f_r_of (g_sel [2] z6) a1 (0 : Int32)) / (8 : Int32)), z6) else (((z6 2 (362 : Int32).toNatClampNeg) - (z6 1 (362 : Int32).toNatClampNeg)), z6)))))))
noncomputable def o_r_written (m : gM) (a1 : Int32) (a2 : Int32) (a3 : Int32) : Prop := (o_r_lays3 (g_sel [1, 2] m) (0 : Int32) (0 : Int32)) ∧ (g_let (f_r_lays3 (g_sel [1, 2] m) (0 : Int32) (0 : Int32)) (fun z2 : gM => g_let (g_mrg [1, 2] m z2) (fun z3 : gM => (o_r_writes (g_sel [2] z3) a1 a2) ∧ (g_let (f_r_writes (g_sel [2] z3) a1 a2) (fun z5 : Int32 × gM => g_let (g_mrg [2] z3 z5.2) (fun z6 : gM => (if a3 = 0 then True else (if a3 = (1 : Int32) then (o_r_of (g_sel [2] z6) a1 (0 : Int32)) ∧ (True) else True))))))))
set_option maxRecDepth 100000 in
set_option maxHeartbeats 4000000 in
theorem c_r_written (l : Launch) (G : gG) (q : Nat → Nat) (m : gM) (h : gN) (a1 : Int32) (a2 : Int32) (a3 : Int32) (hok : o_r_written m a1 a2 a3) : gMi l yX3_written wsX3_written rm_r_written G shM q m h [.ref (q 0), .int a1, .int a2, .int a3] ((f_r_written m a1 a2 a3).2) h ((f_r_written m a1 a2 a3).1) := by
  intro sz
  refine g_met (cc := cX3_written) (maxL := 5) (ret := (some .int)) (own := RX3) (Qc := fun sz => gQi G shM q ((f_r_written m a1 a2 a3).2) h sz ((f_r_written m a1 a2 a3).1)) (by decide) rfl rfl (Nat.le_of_ble_eq_true rfl) (fun p e s m9 below meth c C hq hr => ?_)
  refine x_lv (lv' := [(0, .ref (q 0)), (1, .int a1), (2, .int a2), (3, .int a3)]) [0, 1, 2, 3] rfl ?_
  have hf := f_r_written.eq_1 m a1 a2 a3
  have hok := Eq.mp (o_r_written.eq_1 m a1 a2 a3) hok
  refine x_aload_n C dX3_written_0 rfl 0 rfl ?_
  refine x_get (v := .ref (q 1)) C in_X3_written_3 0 rfl rfl 0 (by decide) k_X3_written_7 rfl rfl dX3_written_1 ?_
  refine x_iconst (v := (0 : Int32)) C dX3_written_4 (by decide) ?_
  refine x_aload_n C dX3_written_5 rfl 0 rfl ?_
  refine x_get (v := .ref (q 2)) C in_X3_written_3 0 rfl rfl 1 (by decide) k_X3_written_13 rfl rfl dX3_written_6 ?_
  refine x_iconst (v := (0 : Int32)) C dX3_written_9 (by decide) ?_
  have s1 := And.left hok
  have hok := And.right hok
  obtain ⟨z2, hz2⟩ : ∃ y9 : gM, y9 = f_r_lays3 (g_sel [1, 2] m) (0 : Int32) (0 : Int32) := ⟨_, rfl⟩
  have hf := hf.trans (g_let_eq hz2)
  have hok := g_let_p hz2 hok
  have hmz2 : gMv l yX3_lays wsX3_lays rm_r_lays3 G shl3 (g_sel [1, 2] q) (g_sel [1, 2] m) (g_sel [1, 2] h) [.ref ((g_sel [1, 2] q) 0), .int (0 : Int32), .ref ((g_sel [1, 2] q) 1), .int (0 : Int32)] z2 (g_sel [1, 2] h) := by rw [hz2]; exact c_r_lays3 l G (g_sel [1, 2] q) (g_sel [1, 2] m) (g_sel [1, 2] h) (0 : Int32) (0 : Int32) s1
  refine x_callSv (n := 4) C hq (gFr_sub gs_M_l3_1_2) (hmz2) (va_cwS 4 C.2.2.2.2.2.1 gX3_written_X3_lays rfl rfl rfl (by decide +kernel) ⟨Nat.le_of_ble_eq_true rfl, Nat.le_of_ble_eq_true rfl⟩) rfl rfl (Nat.le_of_ble_eq_true rfl) dX3_written_10 (Nat.zero_le _) (Nat.zero_le _) ?_
  obtain ⟨z3, hz3⟩ : ∃ y9 : gM, y9 = g_mrg [1, 2] m z2 := ⟨_, rfl⟩
  have hf := hf.trans (g_let_eq hz3)
  have hok := g_let_p hz3 hok
  refine x_mu hz3 (g_mrg_id gs_M_l3_1_2.1) ?_
  refine x_aload_n C dX3_written_13 rfl 0 rfl ?_
  refine x_get (v := .ref (q 2)) C in_X3_written_3 0 rfl rfl 1 (by decide) k_X3_written_13 rfl rfl dX3_written_14 ?_
  refine x_iload_n C dX3_written_17 rfl 1 rfl ?_
  refine x_iload_n C dX3_written_18 rfl 2 rfl ?_
  have s4 := And.left hok
  have hok := And.right hok
  obtain ⟨z5, hz5⟩ : ∃ y9 : Int32 × gM, y9 = f_r_writes (g_sel [2] z3) a1 a2 := ⟨_, rfl⟩
  have hf := hf.trans (g_let_eq hz5)
  have hok := g_let_p hz5 hok
  have hmz5 : gMi l yX3_writes wsX3_writes rm_r_writes G shr (g_sel [2] q) (g_sel [2] z3) (g_sel [2] h) [.ref ((g_sel [2] q) 0), .int a1, .int a2] z5.2 (g_sel [2] h) z5.1 := by rw [hz5]; exact c_r_writes l G (g_sel [2] q) (g_sel [2] z3) (g_sel [2] h) a1 a2 s4
  refine x_callSi (n := 3) C hq (gFr_sub gs_M_r_2) (hmz5) (va_cwS 3 C.2.2.2.2.2.1 gX3_written_X3_writes rfl rfl rfl (by decide +kernel) ⟨Nat.le_of_ble_eq_true rfl, Nat.le_of_ble_eq_true rfl⟩) rfl rfl (Nat.le_of_ble_eq_true rfl) dX3_written_19 (Nat.zero_le _) (Nat.zero_le _) ?_
  obtain ⟨z6, hz6⟩ : ∃ y9 : gM, y9 = g_mrg [2] z3 z5.2 := ⟨_, rfl⟩
  have hf := hf.trans (g_let_eq hz6)
  have hok := g_let_p hz6 hok
  refine x_mu hz6 (g_mrg_id gs_M_r_2.1) ?_
  refine x_istore (lv' := [(0, .ref (q 0)), (1, .int a1), (2, .int a2), (3, .int a3), (4, .int z5.1)]) C dX3_written_22 (by decide) [1, 2, 3, 4, 0] rfl ?_
  refine x_iload_n C dX3_written_24 rfl 3 rfl ?_
  refine x_if_ne (tgt := 33) C dX3_written_25 (by decide) (fun c7 => ?_) (fun c7 => ?_)
  · have hf := hf.trans (if_neg c7)
    have hok := g_in c7 hok
    refine x_iload_n C dX3_written_33 rfl 3 rfl ?_
    refine x_iconst (v := (1 : Int32)) C dX3_written_34 (by decide) ?_
    refine x_icmp_ne (tgt := 53) C dX3_written_35 (by decide) (fun c8 => ?_) (fun c8 => ?_)
    · have hf := hf.trans (if_neg c8)
      have hok := g_in c8 hok
      refine x_aload_n C dX3_written_53 rfl 0 rfl ?_
      refine x_get (v := .ref (q 2)) C in_X3_written_3 0 rfl rfl 1 (by decide) k_X3_written_13 rfl rfl dX3_written_54 ?_
      refine x_sipush (v := (362 : Int32)) C dX3_written_57 (by decide) ?_
      refine x_iald (n := 364) (v := (z6 2 (362 : Int32).toNatClampNeg)) C 2 rfl (by unfold vp_in; decide) rfl dX3_written_60 ?_
      refine x_aload_n C dX3_written_61 rfl 0 rfl ?_
      refine x_get (v := .ref (q 1)) C in_X3_written_3 0 rfl rfl 0 (by decide) k_X3_written_7 rfl rfl dX3_written_62 ?_
      refine x_sipush (v := (362 : Int32)) C dX3_written_65 (by decide) ?_
      refine x_iald (n := 364) (v := (z6 1 (362 : Int32).toNatClampNeg)) C 1 rfl (by unfold vp_in; decide) rfl dX3_written_68 ?_
      refine x_isub C dX3_written_69 ?_
      exact g_iret C hr rfl dX3_written_70 (congrArg (fun z => z.1) hf).symm (congrArg (fun z => z.2) hf).symm rfl
    · have hf := hf.trans (if_pos c8)
      have hok := g_ip c8 hok
      refine x_aload_n C dX3_written_38 rfl 0 rfl ?_
      refine x_get (v := .ref (q 2)) C in_X3_written_3 0 rfl rfl 1 (by decide) k_X3_written_13 rfl rfl dX3_written_39 ?_
      refine x_iload_n C dX3_written_42 rfl 1 rfl ?_
      refine x_iconst (v := (0 : Int32)) C dX3_written_43 (by decide) ?_
      have s9 := And.left hok
      have hok := And.right hok
      refine x_callSi (n := 3) C hq (gFr_pure gs_M_r_2) (c_r_of l G (g_sel [2] q) (g_sel [2] z6) (g_sel [2] h) a1 (0 : Int32) s9) (va_cwS 3 C.2.2.2.2.2.1 gX3_written_X3_of rfl rfl rfl (by decide +kernel) ⟨Nat.le_of_ble_eq_true rfl, Nat.le_of_ble_eq_true rfl⟩) rfl rfl (Nat.le_of_ble_eq_true rfl) dX3_written_44 (Nat.zero_le _) (Nat.zero_le _) ?_
      refine x_bipush (v := (8 : Int32)) C dX3_written_47 (by decide) ?_
      refine x_idiv C dX3_written_49 (by decide) ?_
      refine x_goto (tgt := 70) C dX3_written_50 (by decide) ?_
      exact g_iret C hr rfl dX3_written_70 (congrArg (fun z => z.1) hf).symm (congrArg (fun z => z.2) hf).symm rfl
  · have hf := hf.trans (if_pos c7)
    have hok := g_ip c7 hok
    refine x_iload C dX3_written_28 4 rfl ?_
    refine x_goto (tgt := 70) C dX3_written_30 (by decide) ?_
    exact g_iret C hr rfl dX3_written_70 (congrArg (fun z => z.1) hf).symm (congrArg (fun z => z.2) hf).symm rfl
set_option maxRecDepth 20000 in
theorem in_X3_ifWritten_3 : ∀ w ∈ u_ws RX3 TX3 12, w ∈ wsX3_ifWritten := by decide +kernel
set_option maxRecDepth 20000 in
theorem k_X3_ifWritten_25 : Cond.fieldLink RX3 25 "HintedPagesModel" "thrown" "I" ∈ wsX3_ifWritten := by decide +kernel
abbrev rm_r_ifWritten : Room := { frames := 7, cells := 0, slots := 0, locals := 162 }
noncomputable def f_r_ifWritten (m : gM) (a1 : Int32) (a2 : Int32) (a3 : Int32) : Int32 × gM := g_let (g_set m 0 (upd (m 0) 6 (0 : Int32))) (fun z1 : gM => (if (f_r_isPage a1) = 0 then g_let (f_r_fails z1 (1 : Int32)) (fun z15 : Int32 × gM => (z15.1, z15.2)) else (if (f_r_isHint a2) = 0 then g_let (f_r_fails z1 (2 : Int32)) (fun z7 : Int32 × gM => (z7.1, z7.2)) else (if (f_r_in a3 (0 : Int32) (2 : Int32)) = 0 then g_let (f_r_fails z1 (2 : Int32)) (fun z11 : Int32 × gM => (z11.1, z11.2)) else g_let (f_r_written z1 a1 a2 a3) (fun z13 : Int32 × gM => (z13.1, z13.2))))))
noncomputable def o_r_ifWritten (m : gM) (a1 : Int32) (a2 : Int32) (a3 : Int32) : Prop := g_let (g_set m 0 (upd (m 0) 6 (0 : Int32))) (fun z1 : gM => (o_r_isPage a1) ∧ ((if (f_r_isPage a1) = 0 then (o_r_fails z1 (1 : Int32)) ∧ (g_let (f_r_fails z1 (1 : Int32)) (fun z15 : Int32 × gM => True)) else (o_r_isHint a2) ∧ ((if (f_r_isHint a2) = 0 then (o_r_fails z1 (2 : Int32)) ∧ (g_let (f_r_fails z1 (2 : Int32)) (fun z7 : Int32 × gM => True)) else (o_r_in a3 (0 : Int32) (2 : Int32)) ∧ ((if (f_r_in a3 (0 : Int32) (2 : Int32)) = 0 then (o_r_fails z1 (2 : Int32)) ∧ (g_let (f_r_fails z1 (2 : Int32)) (fun z11 : Int32 × gM => True)) else (o_r_written z1 a1 a2 a3) ∧ (g_let (f_r_written z1 a1 a2 a3) (fun z13 : Int32 × gM => True)))))))))
set_option maxRecDepth 100000 in
set_option maxHeartbeats 4000000 in
theorem c_r_ifWritten (l : Launch) (G : gG) (q : Nat → Nat) (m : gM) (h : gN) (a1 : Int32) (a2 : Int32) (a3 : Int32) (hok : o_r_ifWritten m a1 a2 a3) : gMi l yX3_ifWritten wsX3_ifWritten rm_r_ifWritten G shM q m h [.ref (q 0), .int a1, .int a2, .int a3] ((f_r_ifWritten m a1 a2 a3).2) h ((f_r_ifWritten m a1 a2 a3).1) := by
  intro sz
  refine g_met (cc := cX3_ifWritten) (maxL := 4) (ret := (some .int)) (own := RX3) (Qc := fun sz => gQi G shM q ((f_r_ifWritten m a1 a2 a3).2) h sz ((f_r_ifWritten m a1 a2 a3).1)) (by decide) rfl rfl (Nat.le_of_ble_eq_true rfl) (fun p e s m9 below meth c C hq hr => ?_)
  refine x_lv (lv' := [(0, .ref (q 0)), (1, .int a1), (2, .int a2), (3, .int a3)]) [0, 1, 2, 3] rfl ?_
  have hf := f_r_ifWritten.eq_1 m a1 a2 a3
  have hok := Eq.mp (o_r_ifWritten.eq_1 m a1 a2 a3) hok
  refine x_aload_n C dX3_ifWritten_0 rfl 0 rfl ?_
  refine x_iconst (v := (0 : Int32)) C dX3_ifWritten_1 (by decide) ?_
  obtain ⟨z1, hz1⟩ : ∃ y9 : gM, y9 = g_set m 0 (upd (m 0) 6 (0 : Int32)) := ⟨_, rfl⟩
  have hf := hf.trans (g_let_eq hz1)
  have hok := g_let_p hz1 hok
  refine x_puti (μ' := z1) (ty := .int) C hq tyX3 tyX3_ok nmX3 in_X3_ifWritten_3 0 rfl rfl 6 (by decide) k_X3_ifWritten_25 rfl (tyX3_ok 6 (by decide)) rfl rfl rfl hz1 dX3_ifWritten_2 ?_
  refine x_iload_n C dX3_ifWritten_5 rfl 1 rfl ?_
  have s2 := And.left hok
  have hok := And.right hok
  refine x_callSi (n := 1) C hq (gFr_pure gs_M_0_) (c_r_isPage l G (g_sel [] q) (g_sel [] z1) (g_sel [] h) a1 s2) (va_cwS 1 C.2.2.2.2.2.1 gX3_ifWritten_X3_isPage rfl rfl rfl (by decide +kernel) ⟨Nat.le_of_ble_eq_true rfl, Nat.le_of_ble_eq_true rfl⟩) rfl rfl (Nat.le_of_ble_eq_true rfl) dX3_ifWritten_6 (Nat.zero_le _) (Nat.zero_le _) ?_
  refine x_if_ne (tgt := 18) C dX3_ifWritten_9 (by decide) (fun c3 => ?_) (fun c3 => ?_)
  · have hf := hf.trans (if_neg c3)
    have hok := g_in c3 hok
    refine x_iload_n C dX3_ifWritten_18 rfl 2 rfl ?_
    have s4 := And.left hok
    have hok := And.right hok
    refine x_callSi (n := 1) C hq (gFr_pure gs_M_0_) (c_r_isHint l G (g_sel [] q) (g_sel [] z1) (g_sel [] h) a2 s4) (va_cwS 1 C.2.2.2.2.2.1 gX3_ifWritten_X3_isHint rfl rfl rfl (by decide +kernel) ⟨Nat.le_of_ble_eq_true rfl, Nat.le_of_ble_eq_true rfl⟩) rfl rfl (Nat.le_of_ble_eq_true rfl) dX3_ifWritten_19 (Nat.zero_le _) (Nat.zero_le _) ?_
    refine x_if_eq (tgt := 44) C dX3_ifWritten_22 (by decide) (fun c5 => ?_) (fun c5 => ?_)
    · have hf := hf.trans (if_pos c5)
      have hok := g_ip c5 hok
      refine x_aload_n C dX3_ifWritten_44 rfl 0 rfl ?_
      refine x_iconst (v := (2 : Int32)) C dX3_ifWritten_45 (by decide) ?_
      have s6 := And.left hok
      have hok := And.right hok
      obtain ⟨z7, hz7⟩ : ∃ y9 : Int32 × gM, y9 = f_r_fails z1 (2 : Int32) := ⟨_, rfl⟩
      have hf := hf.trans (g_let_eq hz7)
      have hok := g_let_p hz7 hok
      have hmz7 : gMi l yX3_fails wsX3_fails rm_r_fails G shM q z1 h [.ref (q 0), .int (2 : Int32)] z7.2 h z7.1 := by rw [hz7]; exact c_r_fails l G q z1 h (2 : Int32) s6
      refine x_callVi (n := 1) C hq gFr_same (hmz7) (cwV 1 C.2.2.2.2.2.1 gX3_ifWritten_X3_fails rfl rfl rfl (by decide +kernel) ⟨Nat.le_of_ble_eq_true rfl, Nat.le_of_ble_eq_true rfl⟩) rfl rfl rfl rfl (Nat.le_of_ble_eq_true rfl) dX3_ifWritten_46 (Nat.zero_le _) (Nat.zero_le _) ?_
      exact g_iret C hr rfl dX3_ifWritten_49 (congrArg (fun z => z.1) hf).symm (congrArg (fun z => z.2) hf).symm rfl
    · have hf := hf.trans (if_neg c5)
      have hok := g_in c5 hok
      refine x_iload_n C dX3_ifWritten_25 rfl 3 rfl ?_
      refine x_iconst (v := (0 : Int32)) C dX3_ifWritten_26 (by decide) ?_
      refine x_iconst (v := (2 : Int32)) C dX3_ifWritten_27 (by decide) ?_
      have s8 := And.left hok
      have hok := And.right hok
      refine x_callSi (n := 3) C hq (gFr_pure gs_M_0_) (c_r_in l G (g_sel [] q) (g_sel [] z1) (g_sel [] h) a3 (0 : Int32) (2 : Int32) s8) (va_cwS 3 C.2.2.2.2.2.1 gX3_ifWritten_X3_in rfl rfl rfl (by decide +kernel) ⟨Nat.le_of_ble_eq_true rfl, Nat.le_of_ble_eq_true rfl⟩) rfl rfl (Nat.le_of_ble_eq_true rfl) dX3_ifWritten_28 (Nat.zero_le _) (Nat.zero_le _) ?_
      refine x_if_eq (tgt := 44) C dX3_ifWritten_31 (by decide) (fun c9 => ?_) (fun c9 => ?_)
      · have hf := hf.trans (if_pos c9)
        have hok := g_ip c9 hok
        refine x_aload_n C dX3_ifWritten_44 rfl 0 rfl ?_
        refine x_iconst (v := (2 : Int32)) C dX3_ifWritten_45 (by decide) ?_
        have s10 := And.left hok
        have hok := And.right hok
        obtain ⟨z11, hz11⟩ : ∃ y9 : Int32 × gM, y9 = f_r_fails z1 (2 : Int32) := ⟨_, rfl⟩
        have hf := hf.trans (g_let_eq hz11)
        have hok := g_let_p hz11 hok
        have hmz11 : gMi l yX3_fails wsX3_fails rm_r_fails G shM q z1 h [.ref (q 0), .int (2 : Int32)] z11.2 h z11.1 := by rw [hz11]; exact c_r_fails l G q z1 h (2 : Int32) s10
        refine x_callVi (n := 1) C hq gFr_same (hmz11) (cwV 1 C.2.2.2.2.2.1 gX3_ifWritten_X3_fails rfl rfl rfl (by decide +kernel) ⟨Nat.le_of_ble_eq_true rfl, Nat.le_of_ble_eq_true rfl⟩) rfl rfl rfl rfl (Nat.le_of_ble_eq_true rfl) dX3_ifWritten_46 (Nat.zero_le _) (Nat.zero_le _) ?_
        exact g_iret C hr rfl dX3_ifWritten_49 (congrArg (fun z => z.1) hf).symm (congrArg (fun z => z.2) hf).symm rfl
      · have hf := hf.trans (if_neg c9)
        have hok := g_in c9 hok
        refine x_aload_n C dX3_ifWritten_34 rfl 0 rfl ?_
        refine x_iload_n C dX3_ifWritten_35 rfl 1 rfl ?_
        refine x_iload_n C dX3_ifWritten_36 rfl 2 rfl ?_
        refine x_iload_n C dX3_ifWritten_37 rfl 3 rfl ?_
        have s12 := And.left hok
        have hok := And.right hok
        obtain ⟨z13, hz13⟩ : ∃ y9 : Int32 × gM, y9 = f_r_written z1 a1 a2 a3 := ⟨_, rfl⟩
        have hf := hf.trans (g_let_eq hz13)
        have hok := g_let_p hz13 hok
        have hmz13 : gMi l yX3_written wsX3_written rm_r_written G shM q z1 h [.ref (q 0), .int a1, .int a2, .int a3] z13.2 h z13.1 := by rw [hz13]; exact c_r_written l G q z1 h a1 a2 a3 s12
        refine x_callVi (n := 3) C hq gFr_same (hmz13) (cwV 3 C.2.2.2.2.2.1 gX3_ifWritten_X3_written rfl rfl rfl (by decide +kernel) ⟨Nat.le_of_ble_eq_true rfl, Nat.le_of_ble_eq_true rfl⟩) rfl rfl rfl rfl (Nat.le_of_ble_eq_true rfl) dX3_ifWritten_38 (Nat.zero_le _) (Nat.zero_le _) ?_
        refine x_goto (tgt := 49) C dX3_ifWritten_41 (by decide) ?_
        exact g_iret C hr rfl dX3_ifWritten_49 (congrArg (fun z => z.1) hf).symm (congrArg (fun z => z.2) hf).symm rfl
  · have hf := hf.trans (if_pos c3)
    have hok := g_ip c3 hok
    refine x_aload_n C dX3_ifWritten_12 rfl 0 rfl ?_
    refine x_iconst (v := (1 : Int32)) C dX3_ifWritten_13 (by decide) ?_
    have s14 := And.left hok
    have hok := And.right hok
    obtain ⟨z15, hz15⟩ : ∃ y9 : Int32 × gM, y9 = f_r_fails z1 (1 : Int32) := ⟨_, rfl⟩
    have hf := hf.trans (g_let_eq hz15)
    have hok := g_let_p hz15 hok
    have hmz15 : gMi l yX3_fails wsX3_fails rm_r_fails G shM q z1 h [.ref (q 0), .int (1 : Int32)] z15.2 h z15.1 := by rw [hz15]; exact c_r_fails l G q z1 h (1 : Int32) s14
    refine x_callVi (n := 1) C hq gFr_same (hmz15) (cwV 1 C.2.2.2.2.2.1 gX3_ifWritten_X3_fails rfl rfl rfl (by decide +kernel) ⟨Nat.le_of_ble_eq_true rfl, Nat.le_of_ble_eq_true rfl⟩) rfl rfl rfl rfl (Nat.le_of_ble_eq_true rfl) dX3_ifWritten_14 (Nat.zero_le _) (Nat.zero_le _) ?_
    exact g_iret C hr rfl dX3_ifWritten_17 (congrArg (fun z => z.1) hf).symm (congrArg (fun z => z.2) hf).symm rfl
