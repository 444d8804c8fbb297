set_option maxRecDepth 20000 in
theorem xk_X2_write_IA : Cond.classLink RX2 52 "java/lang/IllegalArgumentException" ∈ wsX2_write := by decide +kernel
set_option maxRecDepth 20000 in
theorem xi_X2_write_IA : Cond.initialized "java/lang/IllegalArgumentException" ∈ wsX2_write := by decide +kernel
theorem xg_X2_write_IA : ∀ w ∈ (vx_atS RX2 56 "java/lang/IllegalArgumentException" g_ns).filter goodWord, w ∈ wsX2_write := fun _ h => List.mem_cons_of_mem _ (List.mem_append_right _ h)
set_option maxRecDepth 20000 in
theorem xb_IA : ∀ w ∈ (vx_atS RX2 56 "java/lang/IllegalArgumentException" g_ns).filter (fun w => !goodWord w), w ∈ g_bad := by decide +kernel
set_option maxRecDepth 20000 in
theorem xo_IA : ∀ w ∈ Cond.classLink RX2 52 "java/lang/IllegalArgumentException" :: Cond.initialized "java/lang/IllegalArgumentException" :: vx_atS RX2 56 "java/lang/IllegalArgumentException" g_ns, vx_ot w = true := by decide +kernel
set_option maxRecDepth 20000 in
theorem xk_X2_write_IO : Cond.classLink RX2 45 "java/lang/IndexOutOfBoundsException" ∈ wsX2_write := by decide +kernel
set_option maxRecDepth 20000 in
theorem xi_X2_write_IO : Cond.initialized "java/lang/IndexOutOfBoundsException" ∈ wsX2_write := by decide +kernel
theorem xg_X2_write_IO : ∀ w ∈ (vx_atS RX2 49 "java/lang/IndexOutOfBoundsException" g_ns).filter goodWord, w ∈ wsX2_write := fun _ h => List.mem_cons_of_mem _ (List.mem_append_left _ (List.mem_append_right _ h))
set_option maxRecDepth 20000 in
theorem xb_IO : ∀ w ∈ (vx_atS RX2 49 "java/lang/IndexOutOfBoundsException" g_ns).filter (fun w => !goodWord w), w ∈ g_bad := by decide +kernel
set_option maxRecDepth 20000 in
theorem xo_IO : ∀ w ∈ Cond.classLink RX2 45 "java/lang/IndexOutOfBoundsException" :: Cond.initialized "java/lang/IndexOutOfBoundsException" :: vx_atS RX2 49 "java/lang/IndexOutOfBoundsException" g_ns, vx_ot w = true := by decide +kernel
abbrev rmx_h_write : Room := { frames := 6, cells := 1, slots := 6, locals := 82 }
noncomputable def fx_h_write (m : gM) (a1 : Int32) (a2 : Int32) : String := (if (f_h_isIn a1 (40 : Int32)) = 0 then "java/lang/IndexOutOfBoundsException" else (if (f_h_isIn a2 (4 : Int32)) = 0 then "java/lang/IllegalArgumentException" else ""))
noncomputable def ox_h_write (m : gM) (a1 : Int32) (a2 : Int32) : Prop := (o_h_isIn a1 (40 : Int32)) ∧ ((if (f_h_isIn a1 (40 : Int32)) = 0 then True else (o_h_isIn a2 (4 : Int32)) ∧ ((if (f_h_isIn a2 (4 : Int32)) = 0 then True else False))))
set_option maxRecDepth 100000 in
set_option maxHeartbeats 4000000 in
theorem cx_h_write (l : Launch) (hl9 : l.stackTraces = false) (G : gG) (q : Nat → Nat) (m : gM) (h : gN) (a1 : Int32) (a2 : Int32) (hok : ox_h_write m a1 a2) : gMx l yX2_write wsX2_write rmx_h_write G shH q m h [.ref (q 0), .int a1, .int a2] (fx_h_write m a1 a2) m h := by
  intro sz
  refine g_metx (cc := cX2_write) (maxL := 3) (ret := (some .int)) (own := RX2) (by decide) rfl rfl (Nat.le_of_ble_eq_true rfl) (fun p e s m9 below meth c C hq hX htab => ?_)
  refine x_lv (lv' := [(0, .ref (q 0)), (1, .int a1), (2, .int a2)]) [0, 1, 2] rfl ?_
  have hf := fx_h_write.eq_1 m a1 a2
  have hok := Eq.mp (ox_h_write.eq_1 m a1 a2) hok
  refine x_iload_n C dX2_write_0 rfl 1 rfl ?_
  refine x_bipush (v := (40 : Int32)) C dX2_write_1 (by decide) ?_
  have s1 := And.left hok
  have hok := And.right hok
  refine x_callSi (n := 2) C hq (gFr_pure gs_H_0_) (c_h_isIn l G (g_sel [] q) (g_sel [] m) (g_sel [] h) a1 (40 : Int32) s1) (va_cwS 2 C.2.2.2.2.2.1 gX2_write_X2_isIn rfl rfl rfl (by decide +kernel) ⟨Nat.le_of_ble_eq_true rfl, Nat.le_of_ble_eq_true rfl⟩) rfl rfl (Nat.le_of_ble_eq_true rfl) dX2_write_3 (Nat.zero_le _) (Nat.zero_le _) ?_
  refine x_if_ne (tgt := 19) C dX2_write_6 (by decide) (fun c2 => ?_) (fun c2 => ?_)
  · have hf := hf.trans (if_neg c2)
    have hok := g_in c2 hok
    refine x_iload_n C dX2_write_19 rfl 2 rfl ?_
    refine x_iconst (v := (4 : Int32)) C dX2_write_20 (by decide) ?_
    have s3 := And.left hok
    have hok := And.right hok
    refine x_callSi (n := 2) C hq (gFr_pure gs_H_0_) (c_h_isIn l G (g_sel [] q) (g_sel [] m) (g_sel [] h) a2 (4 : Int32) s3) (va_cwS 2 C.2.2.2.2.2.1 gX2_write_X2_isIn rfl rfl rfl (by decide +kernel) ⟨Nat.le_of_ble_eq_true rfl, Nat.le_of_ble_eq_true rfl⟩) rfl rfl (Nat.le_of_ble_eq_true rfl) dX2_write_21 (Nat.zero_le _) (Nat.zero_le _) ?_
    refine x_if_ne (tgt := 37) C dX2_write_24 (by decide) (fun c4 => ?_) (fun c4 => ?_)
    · have hf := hf.trans (if_neg c4)
      have hok := g_in c4 hok
      refine x_aload_n C dX2_write_37 rfl 0 rfl ?_
      exact False.elim hok
    · have hf := hf.trans (if_pos c4)
      have hok := g_ip c4 hok
      refine x_lv (lv' := []) [] rfl ?_
      exact x_throw (cls := "java/lang/IllegalArgumentException") (text := "hint out of range") (ik := 52) (is := 54) (ic := 56) C hl9 hX htab (by decide +kernel) xk_X2_write_IA xi_X2_write_IA (by decide +kernel) xg_X2_write_IA xb_IA xo_IA dX2_write_27 dX2_write_30 dX2_write_31 dX2_write_33 dX2_write_36 (Nat.le_of_ble_eq_true rfl) (Nat.le_of_ble_eq_true rfl) (Nat.le_refl _) (Nat.le_refl _) hf.symm rfl rfl
  · have hf := hf.trans (if_pos c2)
    have hok := g_ip c2 hok
    refine x_lv (lv' := []) [] rfl ?_
    exact x_throw (cls := "java/lang/IndexOutOfBoundsException") (text := "no such page") (ik := 45) (is := 47) (ic := 49) C hl9 hX htab (by decide +kernel) xk_X2_write_IO xi_X2_write_IO (by decide +kernel) xg_X2_write_IO xb_IO xo_IO dX2_write_9 dX2_write_12 dX2_write_13 dX2_write_15 dX2_write_18 (Nat.le_of_ble_eq_true rfl) (Nat.le_of_ble_eq_true rfl) (Nat.le_refl _) (Nat.le_refl _) hf.symm rfl rfl
set_option maxRecDepth 20000 in
theorem xk_X2_writeRow_IA : Cond.classLink RX2 52 "java/lang/IllegalArgumentException" ∈ wsX2_writeRow := by decide +kernel
set_option maxRecDepth 20000 in
theorem xi_X2_writeRow_IA : Cond.initialized "java/lang/IllegalArgumentException" ∈ wsX2_writeRow := by decide +kernel
theorem xg_X2_writeRow_IA : ∀ w ∈ (vx_atS RX2 56 "java/lang/IllegalArgumentException" g_ns).filter goodWord, w ∈ wsX2_writeRow := fun _ h => List.mem_cons_of_mem _ (List.mem_append_right _ h)
set_option maxRecDepth 20000 in
theorem xk_X2_writeRow_IO : Cond.classLink RX2 45 "java/lang/IndexOutOfBoundsException" ∈ wsX2_writeRow := by decide +kernel
set_option maxRecDepth 20000 in
theorem xi_X2_writeRow_IO : Cond.initialized "java/lang/IndexOutOfBoundsException" ∈ wsX2_writeRow := by decide +kernel
theorem xg_X2_writeRow_IO : ∀ w ∈ (vx_atS RX2 49 "java/lang/IndexOutOfBoundsException" g_ns).filter goodWord, w ∈ wsX2_writeRow := fun _ h => List.mem_cons_of_mem _ (List.mem_append_left _ (List.mem_append_right _ h))
abbrev rmx_h_writeRow : Room := { frames := 6, cells := 1, slots := 6, locals := 82 }
noncomputable def fx_h_writeRow (m : gM) (a1 : Int32) (a2 : Int32) (a3 : Int32) : String := (if (f_h_isIn a1 (40 : Int32)) = 0 then "java/lang/IndexOutOfBoundsException" else (if a2 < (1 : Int32) then "java/lang/IllegalArgumentException" else (if a2 ≤ ((40 : Int32) - a1) then (if (f_h_isIn a3 (4 : Int32)) = 0 then "java/lang/IllegalArgumentException" else "") else "java/lang/IllegalArgumentException")))
noncomputable def ox_h_writeRow (m : gM) (a1 : Int32) (a2 : Int32) (a3 : Int32) : Prop := (o_h_isIn a1 (40 : Int32)) ∧ ((if (f_h_isIn a1 (40 : Int32)) = 0 then True else (if a2 < (1 : Int32) then True else (if a2 ≤ ((40 : Int32) - a1) then (o_h_isIn a3 (4 : Int32)) ∧ ((if (f_h_isIn a3 (4 : Int32)) = 0 then True else False)) else True))))
set_option maxRecDepth 100000 in
set_option maxHeartbeats 4000000 in
theorem cx_h_writeRow (l : Launch) (hl9 : l.stackTraces = false) (G : gG) (q : Nat → Nat) (m : gM) (h : gN) (a1 : Int32) (a2 : Int32) (a3 : Int32) (hok : ox_h_writeRow m a1 a2 a3) : gMx l yX2_writeRow wsX2_writeRow rmx_h_writeRow G shH q m h [.ref (q 0), .int a1, .int a2, .int a3] (fx_h_writeRow m a1 a2 a3) m h := by
  intro sz
  refine g_metx (cc := cX2_writeRow) (maxL := 4) (ret := (some .int)) (own := RX2) (by decide) rfl rfl (Nat.le_of_ble_eq_true rfl) (fun p e s m9 below meth c C hq hX htab => ?_)
  refine x_lv (lv' := [(0, .ref (q 0)), (1, .int a1), (2, .int a2), (3, .int a3)]) [0, 1, 2, 3] rfl ?_
  have hf := fx_h_writeRow.eq_1 m a1 a2 a3
  have hok := Eq.mp (ox_h_writeRow.eq_1 m a1 a2 a3) hok
  refine x_iload_n C dX2_writeRow_0 rfl 1 rfl ?_
  refine x_bipush (v := (40 : Int32)) C dX2_writeRow_1 (by decide) ?_
  have s1 := And.left hok
  have hok := And.right hok
  refine x_callSi (n := 2) C hq (gFr_pure gs_H_0_) (c_h_isIn l G (g_sel [] q) (g_sel [] m) (g_sel [] h) a1 (40 : Int32) s1) (va_cwS 2 C.2.2.2.2.2.1 gX2_writeRow_X2_isIn rfl rfl rfl (by decide +kernel) ⟨Nat.le_of_ble_eq_true rfl, Nat.le_of_ble_eq_true rfl⟩) rfl rfl (Nat.le_of_ble_eq_true rfl) dX2_writeRow_3 (Nat.zero_le _) (Nat.zero_le _) ?_
  refine x_if_ne (tgt := 19) C dX2_writeRow_6 (by decide) (fun c2 => ?_) (fun c2 => ?_)
  · have hf := hf.trans (if_neg c2)
    have hok := g_in c2 hok
    refine x_iload_n C dX2_writeRow_19 rfl 2 rfl ?_
    refine x_iconst (v := (1 : Int32)) C dX2_writeRow_20 (by decide) ?_
    refine x_icmp_lt (tgt := 32) C dX2_writeRow_21 (by decide) (fun c3 => ?_) (fun c3 => ?_)
    · have hf := hf.trans (if_pos c3)
      have hok := g_ip c3 hok
      refine x_lv (lv' := []) [] rfl ?_
      exact x_throw (cls := "java/lang/IllegalArgumentException") (text := "many out of range") (ik := 52) (is := 64) (ic := 56) C hl9 hX htab (by decide +kernel) xk_X2_writeRow_IA xi_X2_writeRow_IA (by decide +kernel) xg_X2_writeRow_IA xb_IA xo_IA dX2_writeRow_32 dX2_writeRow_35 dX2_writeRow_36 dX2_writeRow_38 dX2_writeRow_41 (Nat.le_of_ble_eq_true rfl) (Nat.le_of_ble_eq_true rfl) (Nat.le_refl _) (Nat.le_refl _) hf.symm rfl rfl
    · have hf := hf.trans (if_neg c3)
      have hok := g_in c3 hok
      refine x_iload_n C dX2_writeRow_24 rfl 2 rfl ?_
      refine x_bipush (v := (40 : Int32)) C dX2_writeRow_25 (by decide) ?_
      refine x_iload_n C dX2_writeRow_27 rfl 1 rfl ?_
      refine x_isub C dX2_writeRow_28 ?_
      refine x_icmp_le (tgt := 42) C dX2_writeRow_29 (by decide) (fun c4 => ?_) (fun c4 => ?_)
      · have hf := hf.trans (if_pos c4)
        have hok := g_ip c4 hok
        refine x_iload_n C dX2_writeRow_42 rfl 3 rfl ?_
        refine x_iconst (v := (4 : Int32)) C dX2_writeRow_43 (by decide) ?_
        have s5 := And.left hok
        have hok := And.right hok
        refine x_callSi (n := 2) C hq (gFr_pure gs_H_0_) (c_h_isIn l G (g_sel [] q) (g_sel [] m) (g_sel [] h) a3 (4 : Int32) s5) (va_cwS 2 C.2.2.2.2.2.1 gX2_writeRow_X2_isIn rfl rfl rfl (by decide +kernel) ⟨Nat.le_of_ble_eq_true rfl, Nat.le_of_ble_eq_true rfl⟩) rfl rfl (Nat.le_of_ble_eq_true rfl) dX2_writeRow_44 (Nat.zero_le _) (Nat.zero_le _) ?_
        refine x_if_ne (tgt := 60) C dX2_writeRow_47 (by decide) (fun c6 => ?_) (fun c6 => ?_)
        · have hf := hf.trans (if_neg c6)
          have hok := g_in c6 hok
          refine x_aload_n C dX2_writeRow_60 rfl 0 rfl ?_
          exact False.elim hok
        · have hf := hf.trans (if_pos c6)
          have hok := g_ip c6 hok
          refine x_lv (lv' := []) [] rfl ?_
          exact x_throw (cls := "java/lang/IllegalArgumentException") (text := "hint out of range") (ik := 52) (is := 54) (ic := 56) C hl9 hX htab (by decide +kernel) xk_X2_writeRow_IA xi_X2_writeRow_IA (by decide +kernel) xg_X2_writeRow_IA xb_IA xo_IA dX2_writeRow_50 dX2_writeRow_53 dX2_writeRow_54 dX2_writeRow_56 dX2_writeRow_59 (Nat.le_of_ble_eq_true rfl) (Nat.le_of_ble_eq_true rfl) (Nat.le_refl _) (Nat.le_refl _) hf.symm rfl rfl
      · have hf := hf.trans (if_neg c4)
        have hok := g_in c4 hok
        refine x_lv (lv' := []) [] rfl ?_
        exact x_throw (cls := "java/lang/IllegalArgumentException") (text := "many out of range") (ik := 52) (is := 64) (ic := 56) C hl9 hX htab (by decide +kernel) xk_X2_writeRow_IA xi_X2_writeRow_IA (by decide +kernel) xg_X2_writeRow_IA xb_IA xo_IA dX2_writeRow_32 dX2_writeRow_35 dX2_writeRow_36 dX2_writeRow_38 dX2_writeRow_41 (Nat.le_of_ble_eq_true rfl) (Nat.le_of_ble_eq_true rfl) (Nat.le_refl _) (Nat.le_refl _) hf.symm rfl rfl
  · have hf := hf.trans (if_pos c2)
    have hok := g_ip c2 hok
    refine x_lv (lv' := []) [] rfl ?_
    exact x_throw (cls := "java/lang/IndexOutOfBoundsException") (text := "no such page") (ik := 45) (is := 47) (ic := 49) C hl9 hX htab (by decide +kernel) xk_X2_writeRow_IO xi_X2_writeRow_IO (by decide +kernel) xg_X2_writeRow_IO xb_IO xo_IO dX2_writeRow_9 dX2_writeRow_12 dX2_writeRow_13 dX2_writeRow_15 dX2_writeRow_18 (Nat.le_of_ble_eq_true rfl) (Nat.le_of_ble_eq_true rfl) (Nat.le_refl _) (Nat.le_refl _) hf.symm rfl rfl
set_option maxRecDepth 20000 in
theorem xk_X2_trim_IO : Cond.classLink RX2 45 "java/lang/IndexOutOfBoundsException" ∈ wsX2_trim := by decide +kernel
set_option maxRecDepth 20000 in
theorem xi_X2_trim_IO : Cond.initialized "java/lang/IndexOutOfBoundsException" ∈ wsX2_trim := by decide +kernel
theorem xg_X2_trim_IO : ∀ w ∈ (vx_atS RX2 49 "java/lang/IndexOutOfBoundsException" g_ns).filter goodWord, w ∈ wsX2_trim := fun _ h => List.mem_cons_of_mem _ (List.mem_append_right _ h)
abbrev rmx_h_trim : Room := { frames := 6, cells := 1, slots := 6, locals := 82 }
noncomputable def fx_h_trim (m : gM) (a1 : Int32) : String := (if (f_h_isIn a1 (40 : Int32)) = 0 then "java/lang/IndexOutOfBoundsException" else "")
noncomputable def ox_h_trim (m : gM) (a1 : Int32) : Prop := (o_h_isIn a1 (40 : Int32)) ∧ ((if (f_h_isIn a1 (40 : Int32)) = 0 then True else False))
set_option maxRecDepth 100000 in
set_option maxHeartbeats 4000000 in
theorem cx_h_trim (l : Launch) (hl9 : l.stackTraces = false) (G : gG) (q : Nat → Nat) (m : gM) (h : gN) (a1 : Int32) (hok : ox_h_trim m a1) : gMx l yX2_trim wsX2_trim rmx_h_trim G shH q m h [.ref (q 0), .int a1] (fx_h_trim m a1) m h := by
  intro sz
  refine g_metx (cc := cX2_trim) (maxL := 3) (ret := (some .int)) (own := RX2) (by decide) rfl rfl (Nat.le_of_ble_eq_true rfl) (fun p e s m9 below meth c C hq hX htab => ?_)
  refine x_lv (lv' := [(0, .ref (q 0)), (1, .int a1)]) [0, 1] rfl ?_
  have hf := fx_h_trim.eq_1 m a1
  have hok := Eq.mp (ox_h_trim.eq_1 m a1) hok
  refine x_iload_n C dX2_trim_0 rfl 1 rfl ?_
  refine x_bipush (v := (40 : Int32)) C dX2_trim_1 (by decide) ?_
  have s1 := And.left hok
  have hok := And.right hok
  refine x_callSi (n := 2) C hq (gFr_pure gs_H_0_) (c_h_isIn l G (g_sel [] q) (g_sel [] m) (g_sel [] h) a1 (40 : Int32) s1) (va_cwS 2 C.2.2.2.2.2.1 gX2_trim_X2_isIn rfl rfl rfl (by decide +kernel) ⟨Nat.le_of_ble_eq_true rfl, Nat.le_of_ble_eq_true rfl⟩) rfl rfl (Nat.le_of_ble_eq_true rfl) dX2_trim_3 (Nat.zero_le _) (Nat.zero_le _) ?_
  refine x_if_ne (tgt := 19) C dX2_trim_6 (by decide) (fun c2 => ?_) (fun c2 => ?_)
  · have hf := hf.trans (if_neg c2)
    have hok := g_in c2 hok
    refine x_aload_n C dX2_trim_19 rfl 0 rfl ?_
    exact False.elim hok
  · have hf := hf.trans (if_pos c2)
    have hok := g_ip c2 hok
    refine x_lv (lv' := []) [] rfl ?_
    exact x_throw (cls := "java/lang/IndexOutOfBoundsException") (text := "no such page") (ik := 45) (is := 47) (ic := 49) C hl9 hX htab (by decide +kernel) xk_X2_trim_IO xi_X2_trim_IO (by decide +kernel) xg_X2_trim_IO xb_IO xo_IO dX2_trim_9 dX2_trim_12 dX2_trim_13 dX2_trim_15 dX2_trim_18 (Nat.le_of_ble_eq_true rfl) (Nat.le_of_ble_eq_true rfl) (Nat.le_refl _) (Nat.le_refl _) hf.symm rfl rfl
set_option maxRecDepth 20000 in
theorem xk_X2_hint_IA : Cond.classLink RX2 52 "java/lang/IllegalArgumentException" ∈ wsX2_hint := by decide +kernel
set_option maxRecDepth 20000 in
theorem xi_X2_hint_IA : Cond.initialized "java/lang/IllegalArgumentException" ∈ wsX2_hint := by decide +kernel
theorem xg_X2_hint_IA : ∀ w ∈ (vx_atS RX2 56 "java/lang/IllegalArgumentException" g_ns).filter goodWord, w ∈ wsX2_hint := fun _ h => List.mem_cons_of_mem _ (List.mem_append_left _ (List.mem_append_right _ h))
set_option maxRecDepth 20000 in
theorem xk_X2_hint_IS : Cond.classLink RX2 78 "java/lang/IllegalStateException" ∈ wsX2_hint := by decide +kernel
set_option maxRecDepth 20000 in
theorem xi_X2_hint_IS : Cond.initialized "java/lang/IllegalStateException" ∈ wsX2_hint := by decide +kernel
theorem xg_X2_hint_IS : ∀ w ∈ (vx_atS RX2 82 "java/lang/IllegalStateException" g_ns).filter goodWord, w ∈ wsX2_hint := fun _ h => List.mem_cons_of_mem _ (List.mem_append_right _ h)
set_option maxRecDepth 20000 in
theorem xb_IS : ∀ w ∈ (vx_atS RX2 82 "java/lang/IllegalStateException" g_ns).filter (fun w => !goodWord w), w ∈ g_bad := by decide +kernel
set_option maxRecDepth 20000 in
theorem xo_IS : ∀ w ∈ Cond.classLink RX2 78 "java/lang/IllegalStateException" :: Cond.initialized "java/lang/IllegalStateException" :: vx_atS RX2 82 "java/lang/IllegalStateException" g_ns, vx_ot w = true := by decide +kernel
set_option maxRecDepth 20000 in
theorem xk_X2_hint_IO : Cond.classLink RX2 45 "java/lang/IndexOutOfBoundsException" ∈ wsX2_hint := by decide +kernel
set_option maxRecDepth 20000 in
theorem xi_X2_hint_IO : Cond.initialized "java/lang/IndexOutOfBoundsException" ∈ wsX2_hint := by decide +kernel
theorem xg_X2_hint_IO : ∀ w ∈ (vx_atS RX2 49 "java/lang/IndexOutOfBoundsException" g_ns).filter goodWord, w ∈ wsX2_hint := fun _ h => List.mem_cons_of_mem _ (List.mem_append_left _ (List.mem_append_left _ (List.mem_append_right _ h)))
abbrev rmx_h_hint : Room := { frames := 6, cells := 1, slots := 6, locals := 82 }
noncomputable def fx_h_hint (m : gM) (a1 : Int32) (a2 : Int32) : String := (if (f_h_isIn a1 (40 : Int32)) = 0 then "java/lang/IndexOutOfBoundsException" else (if (f_h_isIn a2 (4 : Int32)) = 0 then "java/lang/IllegalArgumentException" else (if (f_s_isWritten (g_sel [4, 5, 6, 7, 8, 9, 10, 11, 12, 13, 14, 15, 16, 17, 18, 19] m) a1) = 0 then "java/lang/IllegalStateException" else "")))
noncomputable def ox_h_hint (m : gM) (a1 : Int32) (a2 : Int32) : Prop := (o_h_isIn a1 (40 : Int32)) ∧ ((if (f_h_isIn a1 (40 : Int32)) = 0 then True else (o_h_isIn a2 (4 : Int32)) ∧ ((if (f_h_isIn a2 (4 : Int32)) = 0 then True else (o_s_isWritten (g_sel [4, 5, 6, 7, 8, 9, 10, 11, 12, 13, 14, 15, 16, 17, 18, 19] m) a1) ∧ ((if (f_s_isWritten (g_sel [4, 5, 6, 7, 8, 9, 10, 11, 12, 13, 14, 15, 16, 17, 18, 19] m) a1) = 0 then True else False))))))
set_option maxRecDepth 100000 in
set_option maxHeartbeats 4000000 in
theorem cx_h_hint (l : Launch) (hl9 : l.stackTraces = false) (G : gG) (q : Nat → Nat) (m : gM) (h : gN) (a1 : Int32) (a2 : Int32) (hok : ox_h_hint m a1 a2) : gMx l yX2_hint wsX2_hint rmx_h_hint G shH q m h [.ref (q 0), .int a1, .int a2] (fx_h_hint m a1 a2) m h := by
  intro sz
  refine g_metx (cc := cX2_hint) (maxL := 4) (ret := (some .int)) (own := RX2) (by decide) rfl rfl (Nat.le_of_ble_eq_true rfl) (fun p e s m9 below meth c C hq hX htab => ?_)
  refine x_lv (lv' := [(0, .ref (q 0)), (1, .int a1), (2, .int a2)]) [0, 1, 2] rfl ?_
  have hf := fx_h_hint.eq_1 m a1 a2
  have hok := Eq.mp (ox_h_hint.eq_1 m a1 a2) hok
  refine x_iload_n C dX2_hint_0 rfl 1 rfl ?_
  refine x_bipush (v := (40 : Int32)) C dX2_hint_1 (by decide) ?_
  have s1 := And.left hok
  have hok := And.right hok
  refine x_callSi (n := 2) C hq (gFr_pure gs_H_0_) (c_h_isIn l G (g_sel [] q) (g_sel [] m) (g_sel [] h) a1 (40 : Int32) s1) (va_cwS 2 C.2.2.2.2.2.1 gX2_hint_X2_isIn rfl rfl rfl (by decide +kernel) ⟨Nat.le_of_ble_eq_true rfl, Nat.le_of_ble_eq_true rfl⟩) rfl rfl (Nat.le_of_ble_eq_true rfl) dX2_hint_3 (Nat.zero_le _) (Nat.zero_le _) ?_
  refine x_if_ne (tgt := 19) C dX2_hint_6 (by decide) (fun c2 => ?_) (fun c2 => ?_)
  · have hf := hf.trans (if_neg c2)
    have hok := g_in c2 hok
    refine x_iload_n C dX2_hint_19 rfl 2 rfl ?_
    refine x_iconst (v := (4 : Int32)) C dX2_hint_20 (by decide) ?_
    have s3 := And.left hok
    have hok := And.right hok
    refine x_callSi (n := 2) C hq (gFr_pure gs_H_0_) (c_h_isIn l G (g_sel [] q) (g_sel [] m) (g_sel [] h) a2 (4 : Int32) s3) (va_cwS 2 C.2.2.2.2.2.1 gX2_hint_X2_isIn rfl rfl rfl (by decide +kernel) ⟨Nat.le_of_ble_eq_true rfl, Nat.le_of_ble_eq_true rfl⟩) rfl rfl (Nat.le_of_ble_eq_true rfl) dX2_hint_21 (Nat.zero_le _) (Nat.zero_le _) ?_
    refine x_if_ne (tgt := 37) C dX2_hint_24 (by decide) (fun c4 => ?_) (fun c4 => ?_)
    · have hf := hf.trans (if_neg c4)
      have hok := g_in c4 hok
      refine x_aload_n C dX2_hint_37 rfl 0 rfl ?_
      refine x_get (v := .ref (q 4)) C in_X2_hint_2 0 rfl rfl 0 (by decide) k_X2_hint_10 rfl rfl dX2_hint_38 ?_
      refine x_iload_n C dX2_hint_41 rfl 1 rfl ?_
      have s5 := And.left hok
      have hok := And.right hok
      refine x_callVi (n := 1) C hq (gFr_pure gs_H_S_4_5) (c_s_isWritten l G (g_sel [4, 5, 6, 7, 8, 9, 10, 11, 12, 13, 14, 15, 16, 17, 18, 19] q) (g_sel [4, 5, 6, 7, 8, 9, 10, 11, 12, 13, 14, 15, 16, 17, 18, 19] m) (g_sel [4, 5, 6, 7, 8, 9, 10, 11, 12, 13, 14, 15, 16, 17, 18, 19] h) a1 s5) (cwV 1 C.2.2.2.2.2.1 gX2_hint_X1_isWritten rfl rfl rfl (by decide +kernel) ⟨Nat.le_of_ble_eq_true rfl, Nat.le_of_ble_eq_true rfl⟩) rfl rfl rfl rfl (Nat.le_of_ble_eq_true rfl) dX2_hint_42 (Nat.zero_le _) (Nat.zero_le _) ?_
      refine x_if_ne (tgt := 58) C dX2_hint_45 (by decide) (fun c6 => ?_) (fun c6 => ?_)
      · have hf := hf.trans (if_neg c6)
        have hok := g_in c6 hok
        refine x_aload_n C dX2_hint_58 rfl 0 rfl ?_
        exact False.elim hok
      · have hf := hf.trans (if_pos c6)
        have hok := g_ip c6 hok
        refine x_lv (lv' := []) [] rfl ?_
        exact x_throw (cls := "java/lang/IllegalStateException") (text := "the page is not written") (ik := 78) (is := 80) (ic := 82) C hl9 hX htab (by decide +kernel) xk_X2_hint_IS xi_X2_hint_IS (by decide +kernel) xg_X2_hint_IS xb_IS xo_IS dX2_hint_48 dX2_hint_51 dX2_hint_52 dX2_hint_54 dX2_hint_57 (Nat.le_of_ble_eq_true rfl) (Nat.le_of_ble_eq_true rfl) (Nat.le_refl _) (Nat.le_refl _) hf.symm rfl rfl
    · have hf := hf.trans (if_pos c4)
      have hok := g_ip c4 hok
      refine x_lv (lv' := []) [] rfl ?_
      exact x_throw (cls := "java/lang/IllegalArgumentException") (text := "hint out of range") (ik := 52) (is := 54) (ic := 56) C hl9 hX htab (by decide +kernel) xk_X2_hint_IA xi_X2_hint_IA (by decide +kernel) xg_X2_hint_IA xb_IA xo_IA dX2_hint_27 dX2_hint_30 dX2_hint_31 dX2_hint_33 dX2_hint_36 (Nat.le_of_ble_eq_true rfl) (Nat.le_of_ble_eq_true rfl) (Nat.le_refl _) (Nat.le_refl _) hf.symm rfl rfl
  · have hf := hf.trans (if_pos c2)
    have hok := g_ip c2 hok
    refine x_lv (lv' := []) [] rfl ?_
    exact x_throw (cls := "java/lang/IndexOutOfBoundsException") (text := "no such page") (ik := 45) (is := 47) (ic := 49) C hl9 hX htab (by decide +kernel) xk_X2_hint_IO xi_X2_hint_IO (by decide +kernel) xg_X2_hint_IO xb_IO xo_IO dX2_hint_9 dX2_hint_12 dX2_hint_13 dX2_hint_15 dX2_hint_18 (Nat.le_of_ble_eq_true rfl) (Nat.le_of_ble_eq_true rfl) (Nat.le_refl _) (Nat.le_refl _) hf.symm rfl rfl
set_option maxRecDepth 20000 in
theorem xk_X2_collect_IS : Cond.classLink RX2 78 "java/lang/IllegalStateException" ∈ wsX2_collect := by decide +kernel
set_option maxRecDepth 20000 in
theorem xi_X2_collect_IS : Cond.initialized "java/lang/IllegalStateException" ∈ wsX2_collect := by decide +kernel
theorem xg_X2_collect_IS : ∀ w ∈ (vx_atS RX2 82 "java/lang/IllegalStateException" g_ns).filter goodWord, w ∈ wsX2_collect := fun _ h => List.mem_cons_of_mem _ (List.mem_append_right _ h)
set_option maxRecDepth 20000 in
theorem xk_X2_collect_IO : Cond.classLink RX2 45 "java/lang/IndexOutOfBoundsException" ∈ wsX2_collect := by decide +kernel
set_option maxRecDepth 20000 in
theorem xi_X2_collect_IO : Cond.initialized "java/lang/IndexOutOfBoundsException" ∈ wsX2_collect := by decide +kernel
theorem xg_X2_collect_IO : ∀ w ∈ (vx_atS RX2 49 "java/lang/IndexOutOfBoundsException" g_ns).filter goodWord, w ∈ wsX2_collect := fun _ h => List.mem_cons_of_mem _ (List.mem_append_left _ (List.mem_append_right _ h))
abbrev rmx_h_collect : Room := { frames := 6, cells := 1, slots := 6, locals := 82 }
noncomputable def fx_h_collect (m : gM) (a1 : Int32) : String := (if (f_h_isIn a1 (12 : Int32)) = 0 then "java/lang/IndexOutOfBoundsException" else (if (f_s_stateOf (g_sel [4, 5, 6, 7, 8, 9, 10, 11, 12, 13, 14, 15, 16, 17, 18, 19] m) a1) = (2 : Int32) then "" else "java/lang/IllegalStateException"))
noncomputable def ox_h_collect (m : gM) (a1 : Int32) : Prop := (o_h_isIn a1 (12 : Int32)) ∧ ((if (f_h_isIn a1 (12 : Int32)) = 0 then True else (o_s_stateOf (g_sel [4, 5, 6, 7, 8, 9, 10, 11, 12, 13, 14, 15, 16, 17, 18, 19] m) a1) ∧ ((if (f_s_stateOf (g_sel [4, 5, 6, 7, 8, 9, 10, 11, 12, 13, 14, 15, 16, 17, 18, 19] m) a1) = (2 : Int32) then False else True))))
set_option maxRecDepth 100000 in
set_option maxHeartbeats 4000000 in
theorem cx_h_collect (l : Launch) (hl9 : l.stackTraces = false) (G : gG) (q : Nat → Nat) (m : gM) (h : gN) (a1 : Int32) (hok : ox_h_collect m a1) : gMx l yX2_collect wsX2_collect rmx_h_collect G shH q m h [.ref (q 0), .int a1] (fx_h_collect m a1) m h := by
  intro sz
  refine g_metx (cc := cX2_collect) (maxL := 3) (ret := (some .int)) (own := RX2) (by decide) rfl rfl (Nat.le_of_ble_eq_true rfl) (fun p e s m9 below meth c C hq hX htab => ?_)
  refine x_lv (lv' := [(0, .ref (q 0)), (1, .int a1)]) [0, 1] rfl ?_
  have hf := fx_h_collect.eq_1 m a1
  have hok := Eq.mp (ox_h_collect.eq_1 m a1) hok
  refine x_iload_n C dX2_collect_0 rfl 1 rfl ?_
  refine x_bipush (v := (12 : Int32)) C dX2_collect_1 (by decide) ?_
  have s1 := And.left hok
  have hok := And.right hok
  refine x_callSi (n := 2) C hq (gFr_pure gs_H_0_) (c_h_isIn l G (g_sel [] q) (g_sel [] m) (g_sel [] h) a1 (12 : Int32) s1) (va_cwS 2 C.2.2.2.2.2.1 gX2_collect_X2_isIn rfl rfl rfl (by decide +kernel) ⟨Nat.le_of_ble_eq_true rfl, Nat.le_of_ble_eq_true rfl⟩) rfl rfl (Nat.le_of_ble_eq_true rfl) dX2_collect_3 (Nat.zero_le _) (Nat.zero_le _) ?_
  refine x_if_ne (tgt := 19) C dX2_collect_6 (by decide) (fun c2 => ?_) (fun c2 => ?_)
  · have hf := hf.trans (if_neg c2)
    have hok := g_in c2 hok
    refine x_aload_n C dX2_collect_19 rfl 0 rfl ?_
    refine x_get (v := .ref (q 4)) C in_X2_collect_2 0 rfl rfl 0 (by decide) k_X2_collect_10 rfl rfl dX2_collect_20 ?_
    refine x_iload_n C dX2_collect_23 rfl 1 rfl ?_
    have s3 := And.left hok
    have hok := And.right hok
    refine x_callVi (n := 1) C hq (gFr_pure gs_H_S_4_5) (c_s_stateOf l G (g_sel [4, 5, 6, 7, 8, 9, 10, 11, 12, 13, 14, 15, 16, 17, 18, 19] q) (g_sel [4, 5, 6, 7, 8, 9, 10, 11, 12, 13, 14, 15, 16, 17, 18, 19] m) (g_sel [4, 5, 6, 7, 8, 9, 10, 11, 12, 13, 14, 15, 16, 17, 18, 19] h) a1 s3) (cwV 1 C.2.2.2.2.2.1 gX2_collect_X1_stateOf rfl rfl rfl (by decide +kernel) ⟨Nat.le_of_ble_eq_true rfl, Nat.le_of_ble_eq_true rfl⟩) rfl rfl rfl rfl (Nat.le_of_ble_eq_true rfl) dX2_collect_24 (Nat.zero_le _) (Nat.zero_le _) ?_
    refine x_iconst (v := (2 : Int32)) C dX2_collect_27 (by decide) ?_
    refine x_icmp_eq (tgt := 41) C dX2_collect_28 (by decide) (fun c4 => ?_) (fun c4 => ?_)
    · have hf := hf.trans (if_pos c4)
      have hok := g_ip c4 hok
      refine x_aload_n C dX2_collect_41 rfl 0 rfl ?_
      exact False.elim hok
    · have hf := hf.trans (if_neg c4)
      have hok := g_in c4 hok
      refine x_lv (lv' := []) [] rfl ?_
      exact x_throw (cls := "java/lang/IllegalStateException") (text := "the block is not closed") (ik := 78) (is := 91) (ic := 82) C hl9 hX htab (by decide +kernel) xk_X2_collect_IS xi_X2_collect_IS (by decide +kernel) xg_X2_collect_IS xb_IS xo_IS dX2_collect_31 dX2_collect_34 dX2_collect_35 dX2_collect_37 dX2_collect_40 (Nat.le_of_ble_eq_true rfl) (Nat.le_of_ble_eq_true rfl) (Nat.le_refl _) (Nat.le_refl _) hf.symm rfl rfl
  · have hf := hf.trans (if_pos c2)
    have hok := g_ip c2 hok
    refine x_lv (lv' := []) [] rfl ?_
    exact x_throw (cls := "java/lang/IndexOutOfBoundsException") (text := "no such block") (ik := 45) (is := 86) (ic := 49) C hl9 hX htab (by decide +kernel) xk_X2_collect_IO xi_X2_collect_IO (by decide +kernel) xg_X2_collect_IO xb_IO xo_IO dX2_collect_9 dX2_collect_12 dX2_collect_13 dX2_collect_15 dX2_collect_18 (Nat.le_of_ble_eq_true rfl) (Nat.le_of_ble_eq_true rfl) (Nat.le_refl _) (Nat.le_refl _) hf.symm rfl rfl
set_option maxRecDepth 20000 in
theorem xk_X2_tidy_IA : Cond.classLink RX2 52 "java/lang/IllegalArgumentException" ∈ wsX2_tidy := by decide +kernel
set_option maxRecDepth 20000 in
theorem xi_X2_tidy_IA : Cond.initialized "java/lang/IllegalArgumentException" ∈ wsX2_tidy := by decide +kernel
theorem xg_X2_tidy_IA : ∀ w ∈ (vx_atS RX2 56 "java/lang/IllegalArgumentException" g_ns).filter goodWord, w ∈ wsX2_tidy := fun _ h => List.mem_cons_of_mem _ (List.mem_append_right _ h)
abbrev rmx_h_tidy : Room := { frames := 6, cells := 1, slots := 6, locals := 82 }
noncomputable def fx_h_tidy (m : gM) (a1 : Int32) : String := (if a1 < (1 : Int32) then "java/lang/IllegalArgumentException" else (if a1 ≤ (12 : Int32) then "" else "java/lang/IllegalArgumentException"))
noncomputable def ox_h_tidy (m : gM) (a1 : Int32) : Prop := (if a1 < (1 : Int32) then True else (if a1 ≤ (12 : Int32) then False else True))
set_option maxRecDepth 100000 in
set_option maxHeartbeats 4000000 in
theorem cx_h_tidy (l : Launch) (hl9 : l.stackTraces = false) (G : gG) (q : Nat → Nat) (m : gM) (h : gN) (a1 : Int32) (hok : ox_h_tidy m a1) : gMx l yX2_tidy wsX2_tidy rmx_h_tidy G shH q m h [.ref (q 0), .int a1] (fx_h_tidy m a1) m h := by
  intro sz
  refine g_metx (cc := cX2_tidy) (maxL := 2) (ret := (some .int)) (own := RX2) (by decide) rfl rfl (Nat.le_of_ble_eq_true rfl) (fun p e s m9 below meth c C hq hX htab => ?_)
  refine x_lv (lv' := [(0, .ref (q 0)), (1, .int a1)]) [0, 1] rfl ?_
  have hf := fx_h_tidy.eq_1 m a1
  have hok := Eq.mp (ox_h_tidy.eq_1 m a1) hok
  refine x_iload_n C dX2_tidy_0 rfl 1 rfl ?_
  refine x_iconst (v := (1 : Int32)) C dX2_tidy_1 (by decide) ?_
  refine x_icmp_lt (tgt := 11) C dX2_tidy_2 (by decide) (fun c1 => ?_) (fun c1 => ?_)
  · have hf := hf.trans (if_pos c1)
    have hok := g_ip c1 hok
    refine x_lv (lv' := []) [] rfl ?_
    exact x_throw (cls := "java/lang/IllegalArgumentException") (text := "free out of range") (ik := 52) (is := 100) (ic := 56) C hl9 hX htab (by decide +kernel) xk_X2_tidy_IA xi_X2_tidy_IA (by decide +kernel) xg_X2_tidy_IA xb_IA xo_IA dX2_tidy_11 dX2_tidy_14 dX2_tidy_15 dX2_tidy_17 dX2_tidy_20 (Nat.le_of_ble_eq_true rfl) (Nat.le_of_ble_eq_true rfl) (Nat.le_refl _) (Nat.le_refl _) hf.symm rfl rfl
  · have hf := hf.trans (if_neg c1)
    have hok := g_in c1 hok
    refine x_iload_n C dX2_tidy_5 rfl 1 rfl ?_
    refine x_bipush (v := (12 : Int32)) C dX2_tidy_6 (by decide) ?_
    refine x_icmp_le (tgt := 21) C dX2_tidy_8 (by decide) (fun c2 => ?_) (fun c2 => ?_)
    · have hf := hf.trans (if_pos c2)
      have hok := g_ip c2 hok
      refine x_aload_n C dX2_tidy_21 rfl 0 rfl ?_
      exact False.elim hok
    · have hf := hf.trans (if_neg c2)
      have hok := g_in c2 hok
      refine x_lv (lv' := []) [] rfl ?_
      exact x_throw (cls := "java/lang/IllegalArgumentException") (text := "free out of range") (ik := 52) (is := 100) (ic := 56) C hl9 hX htab (by decide +kernel) xk_X2_tidy_IA xi_X2_tidy_IA (by decide +kernel) xg_X2_tidy_IA xb_IA xo_IA dX2_tidy_11 dX2_tidy_14 dX2_tidy_15 dX2_tidy_17 dX2_tidy_20 (Nat.le_of_ble_eq_true rfl) (Nat.le_of_ble_eq_true rfl) (Nat.le_refl _) (Nat.le_refl _) hf.symm rfl rfl
set_option maxRecDepth 20000 in
theorem xk_X2_set_IA : Cond.classLink RX2 52 "java/lang/IllegalArgumentException" ∈ wsX2_set := by decide +kernel
set_option maxRecDepth 20000 in
theorem xi_X2_set_IA : Cond.initialized "java/lang/IllegalArgumentException" ∈ wsX2_set := by decide +kernel
theorem xg_X2_set_IA : ∀ w ∈ (vx_atS RX2 56 "java/lang/IllegalArgumentException" g_ns).filter goodWord, w ∈ wsX2_set := fun _ h => List.mem_cons_of_mem _ (List.mem_append_right _ h)
set_option maxRecDepth 20000 in
theorem xk_X2_set_IO : Cond.classLink RX2 45 "java/lang/IndexOutOfBoundsException" ∈ wsX2_set := by decide +kernel
set_option maxRecDepth 20000 in
theorem xi_X2_set_IO : Cond.initialized "java/lang/IndexOutOfBoundsException" ∈ wsX2_set := by decide +kernel
theorem xg_X2_set_IO : ∀ w ∈ (vx_atS RX2 49 "java/lang/IndexOutOfBoundsException" g_ns).filter goodWord, w ∈ wsX2_set := fun _ h => List.mem_cons_of_mem _ (List.mem_append_left _ (List.mem_append_right _ h))
abbrev rmx_h_set : Room := { frames := 6, cells := 1, slots := 6, locals := 82 }
noncomputable def fx_h_set (m : gM) (a1 : Int32) (a2 : Int32) : String := (if (f_h_isIn a1 (2 : Int32)) = 0 then "java/lang/IndexOutOfBoundsException" else (if (f_h_isSettingValue a1 a2) = 0 then "java/lang/IllegalArgumentException" else ""))
noncomputable def ox_h_set (m : gM) (a1 : Int32) (a2 : Int32) : Prop := (o_h_isIn a1 (2 : Int32)) ∧ ((if (f_h_isIn a1 (2 : Int32)) = 0 then True else (o_h_isSettingValue a1 a2) ∧ ((if (f_h_isSettingValue a1 a2) = 0 then True else False))))
set_option maxRecDepth 100000 in
set_option maxHeartbeats 4000000 in
theorem cx_h_set (l : Launch) (hl9 : l.stackTraces = false) (G : gG) (q : Nat → Nat) (m : gM) (h : gN) (a1 : Int32) (a2 : Int32) (hok : ox_h_set m a1 a2) : gMx l yX2_set wsX2_set rmx_h_set G shH q m h [.ref (q 0), .int a1, .int a2] (fx_h_set m a1 a2) m h := by
  intro sz
  refine g_metx (cc := cX2_set) (maxL := 4) (ret := (some .int)) (own := RX2) (by decide) rfl rfl (Nat.le_of_ble_eq_true rfl) (fun p e s m9 below meth c C hq hX htab => ?_)
  refine x_lv (lv' := [(0, .ref (q 0)), (1, .int a1), (2, .int a2)]) [0, 1, 2] rfl ?_
  have hf := fx_h_set.eq_1 m a1 a2
  have hok := Eq.mp (ox_h_set.eq_1 m a1 a2) hok
  refine x_iload_n C dX2_set_0 rfl 1 rfl ?_
  refine x_iconst (v := (2 : Int32)) C dX2_set_1 (by decide) ?_
  have s1 := And.left hok
  have hok := And.right hok
  refine x_callSi (n := 2) C hq (gFr_pure gs_H_0_) (c_h_isIn l G (g_sel [] q) (g_sel [] m) (g_sel [] h) a1 (2 : Int32) s1) (va_cwS 2 C.2.2.2.2.2.1 gX2_set_X2_isIn rfl rfl rfl (by decide +kernel) ⟨Nat.le_of_ble_eq_true rfl, Nat.le_of_ble_eq_true rfl⟩) rfl rfl (Nat.le_of_ble_eq_true rfl) dX2_set_2 (Nat.zero_le _) (Nat.zero_le _) ?_
  refine x_if_ne (tgt := 18) C dX2_set_5 (by decide) (fun c2 => ?_) (fun c2 => ?_)
  · have hf := hf.trans (if_neg c2)
    have hok := g_in c2 hok
    refine x_iload_n C dX2_set_18 rfl 1 rfl ?_
    refine x_iload_n C dX2_set_19 rfl 2 rfl ?_
    have s3 := And.left hok
    have hok := And.right hok
    refine x_callSi (n := 2) C hq (gFr_pure gs_H_0_) (c_h_isSettingValue l G (g_sel [] q) (g_sel [] m) (g_sel [] h) a1 a2 s3) (va_cwS 2 C.2.2.2.2.2.1 gX2_set_X2_isSettingValue rfl rfl rfl (by decide +kernel) ⟨Nat.le_of_ble_eq_true rfl, Nat.le_of_ble_eq_true rfl⟩) rfl rfl (Nat.le_of_ble_eq_true rfl) dX2_set_20 (Nat.zero_le _) (Nat.zero_le _) ?_
    refine x_if_ne (tgt := 36) C dX2_set_23 (by decide) (fun c4 => ?_) (fun c4 => ?_)
    · have hf := hf.trans (if_neg c4)
      have hok := g_in c4 hok
      refine x_aload_n C dX2_set_36 rfl 0 rfl ?_
      exact False.elim hok
    · have hf := hf.trans (if_pos c4)
      have hok := g_ip c4 hok
      refine x_lv (lv' := []) [] rfl ?_
      exact x_throw (cls := "java/lang/IllegalArgumentException") (text := "value out of range") (ik := 52) (is := 110) (ic := 56) C hl9 hX htab (by decide +kernel) xk_X2_set_IA xi_X2_set_IA (by decide +kernel) xg_X2_set_IA xb_IA xo_IA dX2_set_26 dX2_set_29 dX2_set_30 dX2_set_32 dX2_set_35 (Nat.le_of_ble_eq_true rfl) (Nat.le_of_ble_eq_true rfl) (Nat.le_refl _) (Nat.le_refl _) hf.symm rfl rfl
  · have hf := hf.trans (if_pos c2)
    have hok := g_ip c2 hok
    refine x_lv (lv' := []) [] rfl ?_
    exact x_throw (cls := "java/lang/IndexOutOfBoundsException") (text := "no such setting") (ik := 45) (is := 105) (ic := 49) C hl9 hX htab (by decide +kernel) xk_X2_set_IO xi_X2_set_IO (by decide +kernel) xg_X2_set_IO xb_IO xo_IO dX2_set_8 dX2_set_11 dX2_set_12 dX2_set_14 dX2_set_17 (Nat.le_of_ble_eq_true rfl) (Nat.le_of_ble_eq_true rfl) (Nat.le_refl _) (Nat.le_refl _) hf.symm rfl rfl
set_option maxRecDepth 20000 in
theorem xk_X2_append_IA : Cond.classLink RX2 52 "java/lang/IllegalArgumentException" ∈ wsX2_append := by decide +kernel
set_option maxRecDepth 20000 in
theorem xi_X2_append_IA : Cond.initialized "java/lang/IllegalArgumentException" ∈ wsX2_append := by decide +kernel
theorem xg_X2_append_IA : ∀ w ∈ (vx_atS RX2 56 "java/lang/IllegalArgumentException" g_ns).filter goodWord, w ∈ wsX2_append := fun _ h => List.mem_cons_of_mem _ (List.mem_append_left _ (List.mem_append_right _ h))
set_option maxRecDepth 20000 in
theorem xk_X2_append_IS : Cond.classLink RX2 78 "java/lang/IllegalStateException" ∈ wsX2_append := by decide +kernel
set_option maxRecDepth 20000 in
theorem xi_X2_append_IS : Cond.initialized "java/lang/IllegalStateException" ∈ wsX2_append := by decide +kernel
theorem xg_X2_append_IS : ∀ w ∈ (vx_atS RX2 82 "java/lang/IllegalStateException" g_ns).filter goodWord, w ∈ wsX2_append := fun _ h => List.mem_cons_of_mem _ (List.mem_append_right _ h)
abbrev rmx_h_append : Room := { frames := 6, cells := 1, slots := 6, locals := 82 }
noncomputable def fx_h_append (m : gM) (a1 : Int32) : String := (if a1 < (33 : Int32) then "java/lang/IllegalArgumentException" else (if a1 ≤ (126 : Int32) then (if (m 0 5) < (60 : Int32) then "" else "java/lang/IllegalStateException") else "java/lang/IllegalArgumentException"))
noncomputable def ox_h_append (m : gM) (a1 : Int32) : Prop := (if a1 < (33 : Int32) then True else (if a1 ≤ (126 : Int32) then (if (m 0 5) < (60 : Int32) then False else True) else True))
set_option maxRecDepth 100000 in
set_option maxHeartbeats 4000000 in
theorem cx_h_append (l : Launch) (hl9 : l.stackTraces = false) (G : gG) (q : Nat → Nat) (m : gM) (h : gN) (a1 : Int32) (hok : ox_h_append m a1) : gMx l yX2_append wsX2_append rmx_h_append G shH q m h [.ref (q 0), .int a1] (fx_h_append m a1) m h := by
  intro sz
  refine g_metx (cc := cX2_append) (maxL := 2) (ret := (some .int)) (own := RX2) (by decide) rfl rfl (Nat.le_of_ble_eq_true rfl) (fun p e s m9 below meth c C hq hX htab => ?_)
  refine x_lv (lv' := [(0, .ref (q 0)), (1, .int a1)]) [0, 1] rfl ?_
  have hf := fx_h_append.eq_1 m a1
  have hok := Eq.mp (ox_h_append.eq_1 m a1) hok
  refine x_iload_n C dX2_append_0 rfl 1 rfl ?_
  refine x_bipush (v := (33 : Int32)) C dX2_append_1 (by decide) ?_
  refine x_icmp_lt (tgt := 12) C dX2_append_3 (by decide) (fun c1 => ?_) (fun c1 => ?_)
  · have hf := hf.trans (if_pos c1)
    have hok := g_ip c1 hok
    refine x_lv (lv' := []) [] rfl ?_
    exact x_throw (cls := "java/lang/IllegalArgumentException") (text := "code out of range") (ik := 52) (is := 115) (ic := 56) C hl9 hX htab (by decide +kernel) xk_X2_append_IA xi_X2_append_IA (by decide +kernel) xg_X2_append_IA xb_IA xo_IA dX2_append_12 dX2_append_15 dX2_append_16 dX2_append_18 dX2_append_21 (Nat.le_of_ble_eq_true rfl) (Nat.le_of_ble_eq_true rfl) (Nat.le_refl _) (Nat.le_refl _) hf.symm rfl rfl
  · have hf := hf.trans (if_neg c1)
    have hok := g_in c1 hok
    refine x_iload_n C dX2_append_6 rfl 1 rfl ?_
    refine x_bipush (v := (126 : Int32)) C dX2_append_7 (by decide) ?_
    refine x_icmp_le (tgt := 22) C dX2_append_9 (by decide) (fun c2 => ?_) (fun c2 => ?_)
    · have hf := hf.trans (if_pos c2)
      have hok := g_ip c2 hok
      refine x_aload_n C dX2_append_22 rfl 0 rfl ?_
      refine x_get (v := .int (m 0 5)) C in_X2_append_2 0 rfl rfl 5 (by decide) k_X2_append_31 rfl rfl dX2_append_23 ?_
      refine x_bipush (v := (60 : Int32)) C dX2_append_26 (by decide) ?_
      refine x_icmp_lt (tgt := 41) C dX2_append_28 (by decide) (fun c3 => ?_) (fun c3 => ?_)
      · have hf := hf.trans (if_pos c3)
        have hok := g_ip c3 hok
        refine x_aload_n C dX2_append_41 rfl 0 rfl ?_
        refine x_get (v := .ref (q 2)) C in_X2_append_2 0 rfl rfl 4 (by decide) k_X2_append_27 rfl rfl dX2_append_42 ?_
        refine x_aload_n C dX2_append_45 rfl 0 rfl ?_
        refine x_get (v := .int (m 0 5)) C in_X2_append_2 0 rfl rfl 5 (by decide) k_X2_append_31 rfl rfl dX2_append_46 ?_
        refine x_iload_n C dX2_append_49 rfl 1 rfl ?_
        exact False.elim hok
      · have hf := hf.trans (if_neg c3)
        have hok := g_in c3 hok
        refine x_lv (lv' := []) [] rfl ?_
        exact x_throw (cls := "java/lang/IllegalStateException") (text := "the buffer is full") (ik := 78) (is := 117) (ic := 82) C hl9 hX htab (by decide +kernel) xk_X2_append_IS xi_X2_append_IS (by decide +kernel) xg_X2_append_IS xb_IS xo_IS dX2_append_31 dX2_append_34 dX2_append_35 dX2_append_37 dX2_append_40 (Nat.le_of_ble_eq_true rfl) (Nat.le_of_ble_eq_true rfl) (Nat.le_refl _) (Nat.le_refl _) hf.symm rfl rfl
    · have hf := hf.trans (if_neg c2)
      have hok := g_in c2 hok
      refine x_lv (lv' := []) [] rfl ?_
      exact x_throw (cls := "java/lang/IllegalArgumentException") (text := "code out of range") (ik := 52) (is := 115) (ic := 56) C hl9 hX htab (by decide +kernel) xk_X2_append_IA xi_X2_append_IA (by decide +kernel) xg_X2_append_IA xb_IA xo_IA dX2_append_12 dX2_append_15 dX2_append_16 dX2_append_18 dX2_append_21 (Nat.le_of_ble_eq_true rfl) (Nat.le_of_ble_eq_true rfl) (Nat.le_refl _) (Nat.le_refl _) hf.symm rfl rfl
set_option maxRecDepth 20000 in
theorem xk_X2_writeAll_IA : Cond.classLink RX2 52 "java/lang/IllegalArgumentException" ∈ wsX2_writeAll := by decide +kernel
set_option maxRecDepth 20000 in
theorem xi_X2_writeAll_IA : Cond.initialized "java/lang/IllegalArgumentException" ∈ wsX2_writeAll := by decide +kernel
theorem xg_X2_writeAll_IA : ∀ w ∈ (vx_atS RX2 56 "java/lang/IllegalArgumentException" g_ns).filter goodWord, w ∈ wsX2_writeAll := fun _ h => List.mem_cons_of_mem _ (List.mem_append_right _ h)
abbrev rmx_h_writeAll : Room := { frames := 6, cells := 1, slots := 6, locals := 107 }
noncomputable def fx_h_writeAll (m : gM) : String × gM := g_let (f_h_readBuffer m) (fun z2 : Int32 × gM => (if z2.1 < (z2.2 0 5) then ("java/lang/IllegalArgumentException", z2.2) else (if (f_d_isPartWhole (g_sel [3] z2.2)) = 0 then ("java/lang/IllegalArgumentException", z2.2) else ("", z2.2))))
noncomputable def ox_h_writeAll (m : gM) : Prop := (o_h_readBuffer m) ∧ (g_let (f_h_readBuffer m) (fun z2 : Int32 × gM => (if z2.1 < (z2.2 0 5) then True else (o_d_isPartWhole (g_sel [3] z2.2)) ∧ ((if (f_d_isPartWhole (g_sel [3] z2.2)) = 0 then True else False)))))
set_option maxRecDepth 100000 in
set_option maxHeartbeats 4000000 in
theorem cx_h_writeAll (l : Launch) (hl9 : l.stackTraces = false) (G : gG) (q : Nat → Nat) (m : gM) (h : gN) (hok : ox_h_writeAll m) : gMx l yX2_writeAll wsX2_writeAll rmx_h_writeAll G shH q m h [.ref (q 0)] ((fx_h_writeAll m).1) ((fx_h_writeAll m).2) h := by
  intro sz
  refine g_metx (cc := cX2_writeAll) (maxL := 3) (ret := (some .int)) (own := RX2) (by decide) rfl rfl (Nat.le_of_ble_eq_true rfl) (fun p e s m9 below meth c C hq hX htab => ?_)
  refine x_lv (lv' := [(0, .ref (q 0))]) [0] rfl ?_
  have hf := fx_h_writeAll.eq_1 m
  have hok := Eq.mp (ox_h_writeAll.eq_1 m) hok
  refine x_aload_n C dX2_writeAll_0 rfl 0 rfl ?_
  have s1 := And.left hok
  have hok := And.right hok
  obtain ⟨z2, hz2⟩ : ∃ y9 : Int32 × gM, y9 = f_h_readBuffer m := ⟨_, rfl⟩
  have hf := hf.trans (g_let_eq hz2)
  have hok := g_let_p hz2 hok
  have hmz2 : gMi l yX2_readBuffer wsX2_readBuffer rm_h_readBuffer G shH q m h [.ref (q 0)] z2.2 h z2.1 := by rw [hz2]; exact c_h_readBuffer l G q m h s1
  refine x_callVi (n := 0) C hq gFr_same (hmz2) (cwV 0 C.2.2.2.2.2.1 gX2_writeAll_X2_readBuffer rfl rfl rfl (by decide +kernel) ⟨Nat.le_of_ble_eq_true rfl, Nat.le_of_ble_eq_true rfl⟩) rfl rfl rfl rfl (Nat.le_of_ble_eq_true rfl) dX2_writeAll_1 (Nat.zero_le _) (Nat.zero_le _) ?_
  refine x_aload_n C dX2_writeAll_4 rfl 0 rfl ?_
  refine x_get (v := .int (z2.2 0 5)) C in_X2_writeAll_2 0 rfl rfl 5 (by decide) k_X2_writeAll_31 rfl rfl dX2_writeAll_5 ?_
  refine x_icmp_lt (tgt := 21) C dX2_writeAll_8 (by decide) (fun c3 => ?_) (fun c3 => ?_)
  · have hf := hf.trans (if_pos c3)
    have hok := g_ip c3 hok
    refine x_lv (lv' := []) [] rfl ?_
    exact x_throw (cls := "java/lang/IllegalArgumentException") (text := "the buffer is not complete") (ik := 52) (is := 126) (ic := 56) C hl9 hX htab (by decide +kernel) xk_X2_writeAll_IA xi_X2_writeAll_IA (by decide +kernel) xg_X2_writeAll_IA xb_IA xo_IA dX2_writeAll_21 dX2_writeAll_24 dX2_writeAll_25 dX2_writeAll_27 dX2_writeAll_30 (Nat.le_of_ble_eq_true rfl) (Nat.le_of_ble_eq_true rfl) (Nat.le_refl _) (Nat.le_refl _) (congrArg (fun z => z.1) hf).symm (congrArg (fun z => z.2) hf).symm rfl
  · have hf := hf.trans (if_neg c3)
    have hok := g_in c3 hok
    refine x_aload_n C dX2_writeAll_11 rfl 0 rfl ?_
    refine x_get (v := .ref (q 3)) C in_X2_writeAll_2 0 rfl rfl 6 (by decide) k_X2_writeAll_37 rfl rfl dX2_writeAll_12 ?_
    have s4 := And.left hok
    have hok := And.right hok
    refine x_callVi (n := 0) C hq (gFr_pure gs_H_R_3) (c_d_isPartWhole l G (g_sel [3] q) (g_sel [3] z2.2) (g_sel [3] h) s4) (cwV 0 C.2.2.2.2.2.1 gX2_writeAll_X0_isPartWhole rfl rfl rfl (by decide +kernel) ⟨Nat.le_of_ble_eq_true rfl, Nat.le_of_ble_eq_true rfl⟩) rfl rfl rfl rfl (Nat.le_of_ble_eq_true rfl) dX2_writeAll_15 (Nat.zero_le _) (Nat.zero_le _) ?_
    refine x_if_ne (tgt := 31) C dX2_writeAll_18 (by decide) (fun c5 => ?_) (fun c5 => ?_)
    · have hf := hf.trans (if_neg c5)
      have hok := g_in c5 hok
      refine x_aload_n C dX2_writeAll_31 rfl 0 rfl ?_
      exact False.elim hok
    · have hf := hf.trans (if_pos c5)
      have hok := g_ip c5 hok
      refine x_lv (lv' := []) [] rfl ?_
      exact x_throw (cls := "java/lang/IllegalArgumentException") (text := "the buffer is not complete") (ik := 52) (is := 126) (ic := 56) C hl9 hX htab (by decide +kernel) xk_X2_writeAll_IA xi_X2_writeAll_IA (by decide +kernel) xg_X2_writeAll_IA xb_IA xo_IA dX2_writeAll_21 dX2_writeAll_24 dX2_writeAll_25 dX2_writeAll_27 dX2_writeAll_30 (Nat.le_of_ble_eq_true rfl) (Nat.le_of_ble_eq_true rfl) (Nat.le_refl _) (Nat.le_refl _) (congrArg (fun z => z.1) hf).symm (congrArg (fun z => z.2) hf).symm rfl
set_option maxRecDepth 20000 in
theorem xk_X2_undo_IS : Cond.classLink RX2 78 "java/lang/IllegalStateException" ∈ wsX2_undo := by decide +kernel
set_option maxRecDepth 20000 in
theorem xi_X2_undo_IS : Cond.initialized "java/lang/IllegalStateException" ∈ wsX2_undo := by decide +kernel
theorem xg_X2_undo_IS : ∀ w ∈ (vx_atS RX2 82 "java/lang/IllegalStateException" g_ns).filter goodWord, w ∈ wsX2_undo := fun _ h => List.mem_cons_of_mem _ (List.mem_append_right _ h)
abbrev rmx_h_undo : Room := { frames := 6, cells := 1, slots := 6, locals := 82 }
noncomputable def fx_h_undo (m : gM) : String := (if 0 < (m 0 3) then "" else "java/lang/IllegalStateException")
noncomputable def ox_h_undo (m : gM) : Prop := (if 0 < (m 0 3) then False else True)
set_option maxRecDepth 100000 in
set_option maxHeartbeats 4000000 in
theorem cx_h_undo (l : Launch) (hl9 : l.stackTraces = false) (G : gG) (q : Nat → Nat) (m : gM) (h : gN) (hok : ox_h_undo m) : gMx l yX2_undo wsX2_undo rmx_h_undo G shH q m h [.ref (q 0)] (fx_h_undo m) m h := by
  intro sz
  refine g_metx (cc := cX2_undo) (maxL := 2) (ret := (some .int)) (own := RX2) (by decide) rfl rfl (Nat.le_of_ble_eq_true rfl) (fun p e s m9 below meth c C hq hX htab => ?_)
  refine x_lv (lv' := [(0, .ref (q 0))]) [0] rfl ?_
  have hf := fx_h_undo.eq_1 m
  have hok := Eq.mp (ox_h_undo.eq_1 m) hok
  refine x_aload_n C dX2_undo_0 rfl 0 rfl ?_
  refine x_get (v := .int (m 0 3)) C in_X2_undo_2 0 rfl rfl 3 (by decide) k_X2_undo_23 rfl rfl dX2_undo_1 ?_
  refine x_if_gt (tgt := 17) C dX2_undo_4 (by decide) (fun c1 => ?_) (fun c1 => ?_)
  · have hf := hf.trans (if_pos c1)
    have hok := g_ip c1 hok
    refine x_aload_n C dX2_undo_17 rfl 0 rfl ?_
    refine x_dup C dX2_undo_18 rfl ?_
    refine x_get (v := .int (m 0 3)) C in_X2_undo_2 0 rfl rfl 3 (by decide) k_X2_undo_23 rfl rfl dX2_undo_19 ?_
    refine x_iconst (v := (1 : Int32)) C dX2_undo_22 (by decide) ?_
    refine x_isub C dX2_undo_23 ?_
    exact False.elim hok
  · have hf := hf.trans (if_neg c1)
    have hok := g_in c1 hok
    refine x_lv (lv' := []) [] rfl ?_
    exact x_throw (cls := "java/lang/IllegalStateException") (text := "there is no saved state") (ik := 78) (is := 143) (ic := 82) C hl9 hX htab (by decide +kernel) xk_X2_undo_IS xi_X2_undo_IS (by decide +kernel) xg_X2_undo_IS xb_IS xo_IS dX2_undo_7 dX2_undo_10 dX2_undo_11 dX2_undo_13 dX2_undo_16 (Nat.le_of_ble_eq_true rfl) (Nat.le_of_ble_eq_true rfl) (Nat.le_refl _) (Nat.le_refl _) hf.symm rfl rfl
set_option maxRecDepth 20000 in
theorem xk_X2_page_IA : Cond.classLink RX2 52 "java/lang/IllegalArgumentException" ∈ wsX2_page := by decide +kernel
set_option maxRecDepth 20000 in
theorem xi_X2_page_IA : Cond.initialized "java/lang/IllegalArgumentException" ∈ wsX2_page := by decide +kernel
theorem xg_X2_page_IA : ∀ w ∈ (vx_atS RX2 56 "java/lang/IllegalArgumentException" g_ns).filter goodWord, w ∈ wsX2_page := fun _ h => List.mem_cons_of_mem _ (List.mem_append_right _ h)
set_option maxRecDepth 20000 in
theorem xk_X2_page_IO : Cond.classLink RX2 45 "java/lang/IndexOutOfBoundsException" ∈ wsX2_page := by decide +kernel
set_option maxRecDepth 20000 in
theorem xi_X2_page_IO : Cond.initialized "java/lang/IndexOutOfBoundsException" ∈ wsX2_page := by decide +kernel
theorem xg_X2_page_IO : ∀ w ∈ (vx_atS RX2 49 "java/lang/IndexOutOfBoundsException" g_ns).filter goodWord, w ∈ wsX2_page := fun _ h => List.mem_cons_of_mem _ (List.mem_append_left _ (List.mem_append_right _ h))
abbrev rmx_h_page : Room := { frames := 6, cells := 1, slots := 6, locals := 82 }
noncomputable def fx_h_page (m : gM) (a1 : Int32) (a2 : Int32) : String := (if (f_h_isIn a1 (40 : Int32)) = 0 then "java/lang/IndexOutOfBoundsException" else (if (f_h_isIn a2 (6 : Int32)) = 0 then "java/lang/IllegalArgumentException" else ""))
noncomputable def ox_h_page (m : gM) (a1 : Int32) (a2 : Int32) : Prop := (o_h_isIn a1 (40 : Int32)) ∧ ((if (f_h_isIn a1 (40 : Int32)) = 0 then True else (o_h_isIn a2 (6 : Int32)) ∧ ((if (f_h_isIn a2 (6 : Int32)) = 0 then True else False))))
set_option maxRecDepth 100000 in
set_option maxHeartbeats 4000000 in
theorem cx_h_page (l : Launch) (hl9 : l.stackTraces = false) (G : gG) (q : Nat → Nat) (m : gM) (h : gN) (a1 : Int32) (a2 : Int32) (hok : ox_h_page m a1 a2) : gMx l yX2_page wsX2_page rmx_h_page G shH q m h [.ref (q 0), .int a1, .int a2] (fx_h_page m a1 a2) m h := by
  intro sz
  refine g_metx (cc := cX2_page) (maxL := 3) (ret := (some .int)) (own := RX2) (by decide) rfl rfl (Nat.le_of_ble_eq_true rfl) (fun p e s m9 below meth c C hq hX htab => ?_)
  refine x_lv (lv' := [(0, .ref (q 0)), (1, .int a1), (2, .int a2)]) [0, 1, 2] rfl ?_
  have hf := fx_h_page.eq_1 m a1 a2
  have hok := Eq.mp (ox_h_page.eq_1 m a1 a2) hok
  refine x_iload_n C dX2_page_0 rfl 1 rfl ?_
  refine x_bipush (v := (40 : Int32)) C dX2_page_1 (by decide) ?_
  have s1 := And.left hok
  have hok := And.right hok
  refine x_callSi (n := 2) C hq (gFr_pure gs_H_0_) (c_h_isIn l G (g_sel [] q) (g_sel [] m) (g_sel [] h) a1 (40 : Int32) s1) (va_cwS 2 C.2.2.2.2.2.1 gX2_page_X2_isIn rfl rfl rfl (by decide +kernel) ⟨Nat.le_of_ble_eq_true rfl, Nat.le_of_ble_eq_true rfl⟩) rfl rfl (Nat.le_of_ble_eq_true rfl) dX2_page_3 (Nat.zero_le _) (Nat.zero_le _) ?_
  refine x_if_ne (tgt := 19) C dX2_page_6 (by decide) (fun c2 => ?_) (fun c2 => ?_)
  · have hf := hf.trans (if_neg c2)
    have hok := g_in c2 hok
    refine x_iload_n C dX2_page_19 rfl 2 rfl ?_
    refine x_bipush (v := (6 : Int32)) C dX2_page_20 (by decide) ?_
    have s3 := And.left hok
    have hok := And.right hok
    refine x_callSi (n := 2) C hq (gFr_pure gs_H_0_) (c_h_isIn l G (g_sel [] q) (g_sel [] m) (g_sel [] h) a2 (6 : Int32) s3) (va_cwS 2 C.2.2.2.2.2.1 gX2_page_X2_isIn rfl rfl rfl (by decide +kernel) ⟨Nat.le_of_ble_eq_true rfl, Nat.le_of_ble_eq_true rfl⟩) rfl rfl (Nat.le_of_ble_eq_true rfl) dX2_page_22 (Nat.zero_le _) (Nat.zero_le _) ?_
    refine x_if_ne (tgt := 38) C dX2_page_25 (by decide) (fun c4 => ?_) (fun c4 => ?_)
    · have hf := hf.trans (if_neg c4)
      have hok := g_in c4 hok
      refine x_aload_n C dX2_page_38 rfl 0 rfl ?_
      refine x_get (v := .ref (q 4)) C in_X2_page_2 0 rfl rfl 0 (by decide) k_X2_page_10 rfl rfl dX2_page_39 ?_
      refine x_iload_n C dX2_page_42 rfl 1 rfl ?_
      refine x_iload_n C dX2_page_43 rfl 2 rfl ?_
      exact False.elim hok
    · have hf := hf.trans (if_pos c4)
      have hok := g_ip c4 hok
      refine x_lv (lv' := []) [] rfl ?_
      exact x_throw (cls := "java/lang/IllegalArgumentException") (text := "what out of range") (ik := 52) (is := 145) (ic := 56) C hl9 hX htab (by decide +kernel) xk_X2_page_IA xi_X2_page_IA (by decide +kernel) xg_X2_page_IA xb_IA xo_IA dX2_page_28 dX2_page_31 dX2_page_32 dX2_page_34 dX2_page_37 (Nat.le_of_ble_eq_true rfl) (Nat.le_of_ble_eq_true rfl) (Nat.le_refl _) (Nat.le_refl _) hf.symm rfl rfl
  · have hf := hf.trans (if_pos c2)
    have hok := g_ip c2 hok
    refine x_lv (lv' := []) [] rfl ?_
    exact x_throw (cls := "java/lang/IndexOutOfBoundsException") (text := "no such page") (ik := 45) (is := 47) (ic := 49) C hl9 hX htab (by decide +kernel) xk_X2_page_IO xi_X2_page_IO (by decide +kernel) xg_X2_page_IO xb_IO xo_IO dX2_page_9 dX2_page_12 dX2_page_13 dX2_page_15 dX2_page_18 (Nat.le_of_ble_eq_true rfl) (Nat.le_of_ble_eq_true rfl) (Nat.le_refl _) (Nat.le_refl _) hf.symm rfl rfl
set_option maxRecDepth 20000 in
theorem xk_X2_block_IA : Cond.classLink RX2 52 "java/lang/IllegalArgumentException" ∈ wsX2_block := by decide +kernel
set_option maxRecDepth 20000 in
theorem xi_X2_block_IA : Cond.initialized "java/lang/IllegalArgumentException" ∈ wsX2_block := by decide +kernel
theorem xg_X2_block_IA : ∀ w ∈ (vx_atS RX2 56 "java/lang/IllegalArgumentException" g_ns).filter goodWord, w ∈ wsX2_block := fun _ h => List.mem_cons_of_mem _ (List.mem_append_right _ h)
set_option maxRecDepth 20000 in
theorem xk_X2_block_IO : Cond.classLink RX2 45 "java/lang/IndexOutOfBoundsException" ∈ wsX2_block := by decide +kernel
set_option maxRecDepth 20000 in
theorem xi_X2_block_IO : Cond.initialized "java/lang/IndexOutOfBoundsException" ∈ wsX2_block := by decide +kernel
theorem xg_X2_block_IO : ∀ w ∈ (vx_atS RX2 49 "java/lang/IndexOutOfBoundsException" g_ns).filter goodWord, w ∈ wsX2_block := fun _ h => List.mem_cons_of_mem _ (List.mem_append_left _ (List.mem_append_right _ h))
abbrev rmx_h_block : Room := { frames := 6, cells := 1, slots := 6, locals := 82 }
noncomputable def fx_h_block (m : gM) (a1 : Int32) (a2 : Int32) : String := (if (f_h_isIn a1 (12 : Int32)) = 0 then "java/lang/IndexOutOfBoundsException" else (if (f_h_isIn a2 (8 : Int32)) = 0 then "java/lang/IllegalArgumentException" else ""))
noncomputable def ox_h_block (m : gM) (a1 : Int32) (a2 : Int32) : Prop := (o_h_isIn a1 (12 : Int32)) ∧ ((if (f_h_isIn a1 (12 : Int32)) = 0 then True else (o_h_isIn a2 (8 : Int32)) ∧ ((if (f_h_isIn a2 (8 : Int32)) = 0 then True else False))))
set_option maxRecDepth 100000 in
set_option maxHeartbeats 4000000 in
theorem cx_h_block (l : Launch) (hl9 : l.stackTraces = false) (G : gG) (q : Nat → Nat) (m : gM) (h : gN) (a1 : Int32) (a2 : Int32) (hok : ox_h_block m a1 a2) : gMx l yX2_block wsX2_block rmx_h_block G shH q m h [.ref (q 0), .int a1, .int a2] (fx_h_block m a1 a2) m h := by
  intro sz
  refine g_metx (cc := cX2_block) (maxL := 3) (ret := (some .int)) (own := RX2) (by decide) rfl rfl (Nat.le_of_ble_eq_true rfl) (fun p e s m9 below meth c C hq hX htab => ?_)
  refine x_lv (lv' := [(0, .ref (q 0)), (1, .int a1), (2, .int a2)]) [0, 1, 2] rfl ?_
  have hf := fx_h_block.eq_1 m a1 a2
  have hok := Eq.mp (ox_h_block.eq_1 m a1 a2) hok
  refine x_iload_n C dX2_block_0 rfl 1 rfl ?_
  refine x_bipush (v := (12 : Int32)) C dX2_block_1 (by decide) ?_
  have s1 := And.left hok
  have hok := And.right hok
  refine x_callSi (n := 2) C hq (gFr_pure gs_H_0_) (c_h_isIn l G (g_sel [] q) (g_sel [] m) (g_sel [] h) a1 (12 : Int32) s1) (va_cwS 2 C.2.2.2.2.2.1 gX2_block_X2_isIn rfl rfl rfl (by decide +kernel) ⟨Nat.le_of_ble_eq_true rfl, Nat.le_of_ble_eq_true rfl⟩) rfl rfl (Nat.le_of_ble_eq_true rfl) dX2_block_3 (Nat.zero_le _) (Nat.zero_le _) ?_
  refine x_if_ne (tgt := 19) C dX2_block_6 (by decide) (fun c2 => ?_) (fun c2 => ?_)
  · have hf := hf.trans (if_neg c2)
    have hok := g_in c2 hok
    refine x_iload_n C dX2_block_19 rfl 2 rfl ?_
    refine x_bipush (v := (8 : Int32)) C dX2_block_20 (by decide) ?_
    have s3 := And.left hok
    have hok := And.right hok
    refine x_callSi (n := 2) C hq (gFr_pure gs_H_0_) (c_h_isIn l G (g_sel [] q) (g_sel [] m) (g_sel [] h) a2 (8 : Int32) s3) (va_cwS 2 C.2.2.2.2.2.1 gX2_block_X2_isIn rfl rfl rfl (by decide +kernel) ⟨Nat.le_of_ble_eq_true rfl, Nat.le_of_ble_eq_true rfl⟩) rfl rfl (Nat.le_of_ble_eq_true rfl) dX2_block_22 (Nat.zero_le _) (Nat.zero_le _) ?_
    refine x_if_ne (tgt := 38) C dX2_block_25 (by decide) (fun c4 => ?_) (fun c4 => ?_)
    · have hf := hf.trans (if_neg c4)
      have hok := g_in c4 hok
      refine x_aload_n C dX2_block_38 rfl 0 rfl ?_
      refine x_get (v := .ref (q 4)) C in_X2_block_2 0 rfl rfl 0 (by decide) k_X2_block_10 rfl rfl dX2_block_39 ?_
      refine x_iload_n C dX2_block_42 rfl 1 rfl ?_
      refine x_iload_n C dX2_block_43 rfl 2 rfl ?_
      exact False.elim hok
    · have hf := hf.trans (if_pos c4)
      have hok := g_ip c4 hok
      refine x_lv (lv' := []) [] rfl ?_
      exact x_throw (cls := "java/lang/IllegalArgumentException") (text := "what out of range") (ik := 52) (is := 145) (ic := 56) C hl9 hX htab (by decide +kernel) xk_X2_block_IA xi_X2_block_IA (by decide +kernel) xg_X2_block_IA xb_IA xo_IA dX2_block_28 dX2_block_31 dX2_block_32 dX2_block_34 dX2_block_37 (Nat.le_of_ble_eq_true rfl) (Nat.le_of_ble_eq_true rfl) (Nat.le_refl _) (Nat.le_refl _) hf.symm rfl rfl
  · have hf := hf.trans (if_pos c2)
    have hok := g_ip c2 hok
    refine x_lv (lv' := []) [] rfl ?_
    exact x_throw (cls := "java/lang/IndexOutOfBoundsException") (text := "no such block") (ik := 45) (is := 86) (ic := 49) C hl9 hX htab (by decide +kernel) xk_X2_block_IO xi_X2_block_IO (by decide +kernel) xg_X2_block_IO xb_IO xo_IO dX2_block_9 dX2_block_12 dX2_block_13 dX2_block_15 dX2_block_18 (Nat.le_of_ble_eq_true rfl) (Nat.le_of_ble_eq_true rfl) (Nat.le_refl _) (Nat.le_refl _) hf.symm rfl rfl
set_option maxRecDepth 20000 in
theorem xk_X2_slot_IO : Cond.classLink RX2 45 "java/lang/IndexOutOfBoundsException" ∈ wsX2_slot := by decide +kernel
set_option maxRecDepth 20000 in
theorem xi_X2_slot_IO : Cond.initialized "java/lang/IndexOutOfBoundsException" ∈ wsX2_slot := by decide +kernel
theorem xg_X2_slot_IO : ∀ w ∈ (vx_atS RX2 49 "java/lang/IndexOutOfBoundsException" g_ns).filter goodWord, w ∈ wsX2_slot := fun _ h => List.mem_cons_of_mem _ (List.mem_append_right _ h)
abbrev rmx_h_slot : Room := { frames := 6, cells := 1, slots := 6, locals := 82 }
noncomputable def fx_h_slot (m : gM) (a1 : Int32) (a2 : Int32) (a3 : Int32) : String := (if (f_h_isIn a1 (12 : Int32)) = 0 then "java/lang/IndexOutOfBoundsException" else (if (f_h_isIn a2 (8 : Int32)) = 0 then "java/lang/IndexOutOfBoundsException" else ""))
noncomputable def ox_h_slot (m : gM) (a1 : Int32) (a2 : Int32) (a3 : Int32) : Prop := (o_h_isIn a1 (12 : Int32)) ∧ ((if (f_h_isIn a1 (12 : Int32)) = 0 then True else (o_h_isIn a2 (8 : Int32)) ∧ ((if (f_h_isIn a2 (8 : Int32)) = 0 then True else False))))
set_option maxRecDepth 100000 in
set_option maxHeartbeats 4000000 in
theorem cx_h_slot (l : Launch) (hl9 : l.stackTraces = false) (G : gG) (q : Nat → Nat) (m : gM) (h : gN) (a1 : Int32) (a2 : Int32) (a3 : Int32) (hok : ox_h_slot m a1 a2 a3) : gMx l yX2_slot wsX2_slot rmx_h_slot G shH q m h [.ref (q 0), .int a1, .int a2, .int a3] (fx_h_slot m a1 a2 a3) m h := by
  intro sz
  refine g_metx (cc := cX2_slot) (maxL := 5) (ret := (some .int)) (own := RX2) (by decide) rfl rfl (Nat.le_of_ble_eq_true rfl) (fun p e s m9 below meth c C hq hX htab => ?_)
  refine x_lv (lv' := [(0, .ref (q 0)), (1, .int a1), (2, .int a2), (3, .int a3)]) [0, 1, 2, 3] rfl ?_
  have hf := fx_h_slot.eq_1 m a1 a2 a3
  have hok := Eq.mp (ox_h_slot.eq_1 m a1 a2 a3) hok
  refine x_iload_n C dX2_slot_0 rfl 1 rfl ?_
  refine x_bipush (v := (12 : Int32)) C dX2_slot_1 (by decide) ?_
  have s1 := And.left hok
  have hok := And.right hok
  refine x_callSi (n := 2) C hq (gFr_pure gs_H_0_) (c_h_isIn l G (g_sel [] q) (g_sel [] m) (g_sel [] h) a1 (12 : Int32) s1) (va_cwS 2 C.2.2.2.2.2.1 gX2_slot_X2_isIn rfl rfl rfl (by decide +kernel) ⟨Nat.le_of_ble_eq_true rfl, Nat.le_of_ble_eq_true rfl⟩) rfl rfl (Nat.le_of_ble_eq_true rfl) dX2_slot_3 (Nat.zero_le _) (Nat.zero_le _) ?_
  refine x_if_eq (tgt := 18) C dX2_slot_6 (by decide) (fun c2 => ?_) (fun c2 => ?_)
  · have hf := hf.trans (if_pos c2)
    have hok := g_ip c2 hok
    refine x_lv (lv' := []) [] rfl ?_
    exact x_throw (cls := "java/lang/IndexOutOfBoundsException") (text := "no such slot") (ik := 45) (is := 154) (ic := 49) C hl9 hX htab (by decide +kernel) xk_X2_slot_IO xi_X2_slot_IO (by decide +kernel) xg_X2_slot_IO xb_IO xo_IO dX2_slot_18 dX2_slot_21 dX2_slot_22 dX2_slot_24 dX2_slot_27 (Nat.le_of_ble_eq_true rfl) (Nat.le_of_ble_eq_true rfl) (Nat.le_refl _) (Nat.le_refl _) hf.symm rfl rfl
  · have hf := hf.trans (if_neg c2)
    have hok := g_in c2 hok
    refine x_iload_n C dX2_slot_9 rfl 2 rfl ?_
    refine x_bipush (v := (8 : Int32)) C dX2_slot_10 (by decide) ?_
    have s3 := And.left hok
    have hok := And.right hok
    refine x_callSi (n := 2) C hq (gFr_pure gs_H_0_) (c_h_isIn l G (g_sel [] q) (g_sel [] m) (g_sel [] h) a2 (8 : Int32) s3) (va_cwS 2 C.2.2.2.2.2.1 gX2_slot_X2_isIn rfl rfl rfl (by decide +kernel) ⟨Nat.le_of_ble_eq_true rfl, Nat.le_of_ble_eq_true rfl⟩) rfl rfl (Nat.le_of_ble_eq_true rfl) dX2_slot_12 (Nat.zero_le _) (Nat.zero_le _) ?_
    refine x_if_ne (tgt := 28) C dX2_slot_15 (by decide) (fun c4 => ?_) (fun c4 => ?_)
    · have hf := hf.trans (if_neg c4)
      have hok := g_in c4 hok
      refine x_iload_n C dX2_slot_28 rfl 1 rfl ?_
      refine x_bipush (v := (8 : Int32)) C dX2_slot_29 (by decide) ?_
      refine x_imul C dX2_slot_31 ?_
      refine x_iload_n C dX2_slot_32 rfl 2 rfl ?_
      refine x_iadd C dX2_slot_33 ?_
      exact False.elim hok
    · have hf := hf.trans (if_pos c4)
      have hok := g_ip c4 hok
      refine x_lv (lv' := []) [] rfl ?_
      exact x_throw (cls := "java/lang/IndexOutOfBoundsException") (text := "no such slot") (ik := 45) (is := 154) (ic := 49) C hl9 hX htab (by decide +kernel) xk_X2_slot_IO xi_X2_slot_IO (by decide +kernel) xg_X2_slot_IO xb_IO xo_IO dX2_slot_18 dX2_slot_21 dX2_slot_22 dX2_slot_24 dX2_slot_27 (Nat.le_of_ble_eq_true rfl) (Nat.le_of_ble_eq_true rfl) (Nat.le_refl _) (Nat.le_refl _) hf.symm rfl rfl
set_option maxRecDepth 20000 in
theorem xk_X2_stream_IA : Cond.classLink RX2 52 "java/lang/IllegalArgumentException" ∈ wsX2_stream := by decide +kernel
set_option maxRecDepth 20000 in
theorem xi_X2_stream_IA : Cond.initialized "java/lang/IllegalArgumentException" ∈ wsX2_stream := by decide +kernel
theorem xg_X2_stream_IA : ∀ w ∈ (vx_atS RX2 56 "java/lang/IllegalArgumentException" g_ns).filter goodWord, w ∈ wsX2_stream := fun _ h => List.mem_cons_of_mem _ (List.mem_append_right _ h)
set_option maxRecDepth 20000 in
theorem xk_X2_stream_IO : Cond.classLink RX2 45 "java/lang/IndexOutOfBoundsException" ∈ wsX2_stream := by decide +kernel
set_option maxRecDepth 20000 in
theorem xi_X2_stream_IO : Cond.initialized "java/lang/IndexOutOfBoundsException" ∈ wsX2_stream := by decide +kernel
theorem xg_X2_stream_IO : ∀ w ∈ (vx_atS RX2 49 "java/lang/IndexOutOfBoundsException" g_ns).filter goodWord, w ∈ wsX2_stream := fun _ h => List.mem_cons_of_mem _ (List.mem_append_left _ (List.mem_append_right _ h))
abbrev rmx_h_stream : Room := { frames := 6, cells := 1, slots := 6, locals := 82 }
noncomputable def fx_h_stream (m : gM) (a1 : Int32) (a2 : Int32) : String := (if (f_h_isIn a1 (5 : Int32)) = 0 then "java/lang/IndexOutOfBoundsException" else (if (f_h_isIn a2 (5 : Int32)) = 0 then "java/lang/IllegalArgumentException" else ""))
noncomputable def ox_h_stream (m : gM) (a1 : Int32) (a2 : Int32) : Prop := (o_h_isIn a1 (5 : Int32)) ∧ ((if (f_h_isIn a1 (5 : Int32)) = 0 then True else (o_h_isIn a2 (5 : Int32)) ∧ ((if (f_h_isIn a2 (5 : Int32)) = 0 then True else False))))
set_option maxRecDepth 100000 in
set_option maxHeartbeats 4000000 in
theorem cx_h_stream (l : Launch) (hl9 : l.stackTraces = false) (G : gG) (q : Nat → Nat) (m : gM) (h : gN) (a1 : Int32) (a2 : Int32) (hok : ox_h_stream m a1 a2) : gMx l yX2_stream wsX2_stream rmx_h_stream G shH q m h [.ref (q 0), .int a1, .int a2] (fx_h_stream m a1 a2) m h := by
  intro sz
  refine g_metx (cc := cX2_stream) (maxL := 3) (ret := (some .int)) (own := RX2) (by decide) rfl rfl (Nat.le_of_ble_eq_true rfl) (fun p e s m9 below meth c C hq hX htab => ?_)
  refine x_lv (lv' := [(0, .ref (q 0)), (1, .int a1), (2, .int a2)]) [0, 1, 2] rfl ?_
  have hf := fx_h_stream.eq_1 m a1 a2
  have hok := Eq.mp (ox_h_stream.eq_1 m a1 a2) hok
  refine x_iload_n C dX2_stream_0 rfl 1 rfl ?_
  refine x_iconst (v := (5 : Int32)) C dX2_stream_1 (by decide) ?_
  have s1 := And.left hok
  have hok := And.right hok
  refine x_callSi (n := 2) C hq (gFr_pure gs_H_0_) (c_h_isIn l G (g_sel [] q) (g_sel [] m) (g_sel [] h) a1 (5 : Int32) s1) (va_cwS 2 C.2.2.2.2.2.1 gX2_stream_X2_isIn rfl rfl rfl (by decide +kernel) ⟨Nat.le_of_ble_eq_true rfl, Nat.le_of_ble_eq_true rfl⟩) rfl rfl (Nat.le_of_ble_eq_true rfl) dX2_stream_2 (Nat.zero_le _) (Nat.zero_le _) ?_
  refine x_if_ne (tgt := 18) C dX2_stream_5 (by decide) (fun c2 => ?_) (fun c2 => ?_)
  · have hf := hf.trans (if_neg c2)
    have hok := g_in c2 hok
    refine x_iload_n C dX2_stream_18 rfl 2 rfl ?_
    refine x_iconst (v := (5 : Int32)) C dX2_stream_19 (by decide) ?_
    have s3 := And.left hok
    have hok := And.right hok
    refine x_callSi (n := 2) C hq (gFr_pure gs_H_0_) (c_h_isIn l G (g_sel [] q) (g_sel [] m) (g_sel [] h) a2 (5 : Int32) s3) (va_cwS 2 C.2.2.2.2.2.1 gX2_stream_X2_isIn rfl rfl rfl (by decide +kernel) ⟨Nat.le_of_ble_eq_true rfl, Nat.le_of_ble_eq_true rfl⟩) rfl rfl (Nat.le_of_ble_eq_true rfl) dX2_stream_20 (Nat.zero_le _) (Nat.zero_le _) ?_
    refine x_if_ne (tgt := 36) C dX2_stream_23 (by decide) (fun c4 => ?_) (fun c4 => ?_)
    · have hf := hf.trans (if_neg c4)
      have hok := g_in c4 hok
      refine x_aload_n C dX2_stream_36 rfl 0 rfl ?_
      refine x_get (v := .ref (q 4)) C in_X2_stream_2 0 rfl rfl 0 (by decide) k_X2_stream_10 rfl rfl dX2_stream_37 ?_
      refine x_iload_n C dX2_stream_40 rfl 1 rfl ?_
      refine x_iload_n C dX2_stream_41 rfl 2 rfl ?_
      exact False.elim hok
    · have hf := hf.trans (if_pos c4)
      have hok := g_ip c4 hok
      refine x_lv (lv' := []) [] rfl ?_
      exact x_throw (cls := "java/lang/IllegalArgumentException") (text := "what out of range") (ik := 52) (is := 145) (ic := 56) C hl9 hX htab (by decide +kernel) xk_X2_stream_IA xi_X2_stream_IA (by decide +kernel) xg_X2_stream_IA xb_IA xo_IA dX2_stream_26 dX2_stream_29 dX2_stream_30 dX2_stream_32 dX2_stream_35 (Nat.le_of_ble_eq_true rfl) (Nat.le_of_ble_eq_true rfl) (Nat.le_refl _) (Nat.le_refl _) hf.symm rfl rfl
  · have hf := hf.trans (if_pos c2)
    have hok := g_ip c2 hok
    refine x_lv (lv' := []) [] rfl ?_
    exact x_throw (cls := "java/lang/IndexOutOfBoundsException") (text := "no such stream") (ik := 45) (is := 162) (ic := 49) C hl9 hX htab (by decide +kernel) xk_X2_stream_IO xi_X2_stream_IO (by decide +kernel) xg_X2_stream_IO xb_IO xo_IO dX2_stream_8 dX2_stream_11 dX2_stream_12 dX2_stream_14 dX2_stream_17 (Nat.le_of_ble_eq_true rfl) (Nat.le_of_ble_eq_true rfl) (Nat.le_refl _) (Nat.le_refl _) hf.symm rfl rfl
set_option maxRecDepth 20000 in
theorem xk_X2_count_IA : Cond.classLink RX2 52 "java/lang/IllegalArgumentException" ∈ wsX2_count := by decide +kernel
set_option maxRecDepth 20000 in
theorem xi_X2_count_IA : Cond.initialized "java/lang/IllegalArgumentException" ∈ wsX2_count := by decide +kernel
theorem xg_X2_count_IA : ∀ w ∈ (vx_atS RX2 56 "java/lang/IllegalArgumentException" g_ns).filter goodWord, w ∈ wsX2_count := fun _ h => List.mem_cons_of_mem _ (List.mem_append_right _ h)
abbrev rmx_h_count : Room := { frames := 6, cells := 1, slots := 6, locals := 82 }
noncomputable def fx_h_count (m : gM) (a1 : Int32) : String := (if (f_h_isIn a1 (12 : Int32)) = 0 then "java/lang/IllegalArgumentException" else (if a1 = (11 : Int32) then "" else ""))
noncomputable def ox_h_count (m : gM) (a1 : Int32) : Prop := (o_h_isIn a1 (12 : Int32)) ∧ ((if (f_h_isIn a1 (12 : Int32)) = 0 then True else (if a1 = (11 : Int32) then False else False)))
set_option maxRecDepth 100000 in
set_option maxHeartbeats 4000000 in
theorem cx_h_count (l : Launch) (hl9 : l.stackTraces = false) (G : gG) (q : Nat → Nat) (m : gM) (h : gN) (a1 : Int32) (hok : ox_h_count m a1) : gMx l yX2_count wsX2_count rmx_h_count G shH q m h [.ref (q 0), .int a1] (fx_h_count m a1) m h := by
  intro sz
  refine g_metx (cc := cX2_count) (maxL := 2) (ret := (some .int)) (own := RX2) (by decide) rfl rfl (Nat.le_of_ble_eq_true rfl) (fun p e s m9 below meth c C hq hX htab => ?_)
  refine x_lv (lv' := [(0, .ref (q 0)), (1, .int a1)]) [0, 1] rfl ?_
  have hf := fx_h_count.eq_1 m a1
  have hok := Eq.mp (ox_h_count.eq_1 m a1) hok
  refine x_iload_n C dX2_count_0 rfl 1 rfl ?_
  refine x_bipush (v := (12 : Int32)) C dX2_count_1 (by decide) ?_
  have s1 := And.left hok
  have hok := And.right hok
  refine x_callSi (n := 2) C hq (gFr_pure gs_H_0_) (c_h_isIn l G (g_sel [] q) (g_sel [] m) (g_sel [] h) a1 (12 : Int32) s1) (va_cwS 2 C.2.2.2.2.2.1 gX2_count_X2_isIn rfl rfl rfl (by decide +kernel) ⟨Nat.le_of_ble_eq_true rfl, Nat.le_of_ble_eq_true rfl⟩) rfl rfl (Nat.le_of_ble_eq_true rfl) dX2_count_3 (Nat.zero_le _) (Nat.zero_le _) ?_
  refine x_if_ne (tgt := 19) C dX2_count_6 (by decide) (fun c2 => ?_) (fun c2 => ?_)
  · have hf := hf.trans (if_neg c2)
    have hok := g_in c2 hok
    refine x_iload_n C dX2_count_19 rfl 1 rfl ?_
    refine x_bipush (v := (11 : Int32)) C dX2_count_20 (by decide) ?_
    refine x_icmp_ne (tgt := 32) C dX2_count_22 (by decide) (fun c3 => ?_) (fun c3 => ?_)
    · have hf := hf.trans (if_neg c3)
      have hok := g_in c3 hok
      refine x_aload_n C dX2_count_32 rfl 0 rfl ?_
      refine x_get (v := .ref (q 4)) C in_X2_count_2 0 rfl rfl 0 (by decide) k_X2_count_10 rfl rfl dX2_count_33 ?_
      refine x_iload_n C dX2_count_36 rfl 1 rfl ?_
      exact False.elim hok
    · have hf := hf.trans (if_pos c3)
      have hok := g_ip c3 hok
      refine x_aload_n C dX2_count_25 rfl 0 rfl ?_
      refine x_get (v := .int (m 0 3)) C in_X2_count_2 0 rfl rfl 3 (by decide) k_X2_count_23 rfl rfl dX2_count_26 ?_
      refine x_goto (tgt := 40) C dX2_count_29 (by decide) ?_
      exact False.elim hok
  · have hf := hf.trans (if_pos c2)
    have hok := g_ip c2 hok
    refine x_lv (lv' := []) [] rfl ?_
    exact x_throw (cls := "java/lang/IllegalArgumentException") (text := "what out of range") (ik := 52) (is := 145) (ic := 56) C hl9 hX htab (by decide +kernel) xk_X2_count_IA xi_X2_count_IA (by decide +kernel) xg_X2_count_IA xb_IA xo_IA dX2_count_9 dX2_count_12 dX2_count_13 dX2_count_15 dX2_count_18 (Nat.le_of_ble_eq_true rfl) (Nat.le_of_ble_eq_true rfl) (Nat.le_refl _) (Nat.le_refl _) hf.symm rfl rfl
set_option maxRecDepth 20000 in
theorem xk_X2_setting_IO : Cond.classLink RX2 45 "java/lang/IndexOutOfBoundsException" ∈ wsX2_setting := by decide +kernel
set_option maxRecDepth 20000 in
theorem xi_X2_setting_IO : Cond.initialized "java/lang/IndexOutOfBoundsException" ∈ wsX2_setting := by decide +kernel
theorem xg_X2_setting_IO : ∀ w ∈ (vx_atS RX2 49 "java/lang/IndexOutOfBoundsException" g_ns).filter goodWord, w ∈ wsX2_setting := fun _ h => List.mem_cons_of_mem _ (List.mem_append_right _ h)
abbrev rmx_h_setting : Room := { frames := 6, cells := 1, slots := 6, locals := 82 }
noncomputable def fx_h_setting (m : gM) (a1 : Int32) : String := (if (f_h_isIn a1 (2 : Int32)) = 0 then "java/lang/IndexOutOfBoundsException" else "")
noncomputable def ox_h_setting (m : gM) (a1 : Int32) : Prop := (o_h_isIn a1 (2 : Int32)) ∧ ((if (f_h_isIn a1 (2 : Int32)) = 0 then True else (vp_in a1 2) ∧ (False)))
set_option maxRecDepth 100000 in
set_option maxHeartbeats 4000000 in
theorem cx_h_setting (l : Launch) (hl9 : l.stackTraces = false) (G : gG) (q : Nat → Nat) (m : gM) (h : gN) (a1 : Int32) (hok : ox_h_setting m a1) : gMx l yX2_setting wsX2_setting rmx_h_setting G shH q m h [.ref (q 0), .int a1] (fx_h_setting m a1) m h := by
  intro sz
  refine g_metx (cc := cX2_setting) (maxL := 2) (ret := (some .int)) (own := RX2) (by decide) rfl rfl (Nat.le_of_ble_eq_true rfl) (fun p e s m9 below meth c C hq hX htab => ?_)
  refine x_lv (lv' := [(0, .ref (q 0)), (1, .int a1)]) [0, 1] rfl ?_
  have hf := fx_h_setting.eq_1 m a1
  have hok := Eq.mp (ox_h_setting.eq_1 m a1) hok
  refine x_iload_n C dX2_setting_0 rfl 1 rfl ?_
  refine x_iconst (v := (2 : Int32)) C dX2_setting_1 (by decide) ?_
  have s1 := And.left hok
  have hok := And.right hok
  refine x_callSi (n := 2) C hq (gFr_pure gs_H_0_) (c_h_isIn l G (g_sel [] q) (g_sel [] m) (g_sel [] h) a1 (2 : Int32) s1) (va_cwS 2 C.2.2.2.2.2.1 gX2_setting_X2_isIn rfl rfl rfl (by decide +kernel) ⟨Nat.le_of_ble_eq_true rfl, Nat.le_of_ble_eq_true rfl⟩) rfl rfl (Nat.le_of_ble_eq_true rfl) dX2_setting_2 (Nat.zero_le _) (Nat.zero_le _) ?_
  refine x_if_ne (tgt := 18) C dX2_setting_5 (by decide) (fun c2 => ?_) (fun c2 => ?_)
  · have hf := hf.trans (if_neg c2)
    have hok := g_in c2 hok
    refine x_aload_n C dX2_setting_18 rfl 0 rfl ?_
    refine x_get (v := .ref (q 4)) C in_X2_setting_2 0 rfl rfl 0 (by decide) k_X2_setting_10 rfl rfl dX2_setting_19 ?_
    refine x_get (v := .ref (q 19)) C in_X2_setting_1 4 rfl rfl 14 (by decide) k_X2_setting_112 rfl rfl dX2_setting_22 ?_
    refine x_iload_n C dX2_setting_25 rfl 1 rfl ?_
    have s3 := And.left hok
    have hok := And.right hok
    refine x_iald (n := 2) (v := (m 19 a1.toNatClampNeg)) C 19 rfl s3 rfl dX2_setting_26 ?_
    exact False.elim hok
  · have hf := hf.trans (if_pos c2)
    have hok := g_ip c2 hok
    refine x_lv (lv' := []) [] rfl ?_
    exact x_throw (cls := "java/lang/IndexOutOfBoundsException") (text := "no such setting") (ik := 45) (is := 105) (ic := 49) C hl9 hX htab (by decide +kernel) xk_X2_setting_IO xi_X2_setting_IO (by decide +kernel) xg_X2_setting_IO xb_IO xo_IO dX2_setting_8 dX2_setting_11 dX2_setting_12 dX2_setting_14 dX2_setting_17 (Nat.le_of_ble_eq_true rfl) (Nat.le_of_ble_eq_true rfl) (Nat.le_refl _) (Nat.le_refl _) hf.symm rfl rfl
set_option maxRecDepth 20000 in
theorem xk_X2_ifWritten_IA : Cond.classLink RX2 52 "java/lang/IllegalArgumentException" ∈ wsX2_ifWritten := by decide +kernel
set_option maxRecDepth 20000 in
theorem xi_X2_ifWritten_IA : Cond.initialized "java/lang/IllegalArgumentException" ∈ wsX2_ifWritten := by decide +kernel
theorem xg_X2_ifWritten_IA : ∀ w ∈ (vx_atS RX2 56 "java/lang/IllegalArgumentException" g_ns).filter goodWord, w ∈ wsX2_ifWritten := fun _ h => List.mem_cons_of_mem _ (List.mem_append_right _ h)
set_option maxRecDepth 20000 in
theorem xk_X2_ifWritten_IO : Cond.classLink RX2 45 "java/lang/IndexOutOfBoundsException" ∈ wsX2_ifWritten := by decide +kernel
set_option maxRecDepth 20000 in
theorem xi_X2_ifWritten_IO : Cond.initialized "java/lang/IndexOutOfBoundsException" ∈ wsX2_ifWritten := by decide +kernel
theorem xg_X2_ifWritten_IO : ∀ w ∈ (vx_atS RX2 49 "java/lang/IndexOutOfBoundsException" g_ns).filter goodWord, w ∈ wsX2_ifWritten := fun _ h => List.mem_cons_of_mem _ (List.mem_append_left _ (List.mem_append_right _ h))
abbrev rmx_h_ifWritten : Room := { frames := 6, cells := 1, slots := 6, locals := 82 }
noncomputable def fx_h_ifWritten (m : gM) (a1 : Int32) (a2 : Int32) (a3 : Int32) : String := (if (f_h_isIn a1 (40 : Int32)) = 0 then "java/lang/IndexOutOfBoundsException" else (if (f_h_isIn a2 (4 : Int32)) = 0 then "java/lang/IllegalArgumentException" else (if (f_h_isIn a3 (3 : Int32)) = 0 then "java/lang/IllegalArgumentException" else "")))
noncomputable def ox_h_ifWritten (m : gM) (a1 : Int32) (a2 : Int32) (a3 : Int32) : Prop := (o_h_isIn a1 (40 : Int32)) ∧ ((if (f_h_isIn a1 (40 : Int32)) = 0 then True else (o_h_isIn a2 (4 : Int32)) ∧ ((if (f_h_isIn a2 (4 : Int32)) = 0 then True else (o_h_isIn a3 (3 : Int32)) ∧ ((if (f_h_isIn a3 (3 : Int32)) = 0 then True else False))))))
set_option maxRecDepth 100000 in
set_option maxHeartbeats 4000000 in
theorem cx_h_ifWritten (l : Launch) (hl9 : l.stackTraces = false) (G : gG) (q : Nat → Nat) (m : gM) (h : gN) (a1 : Int32) (a2 : Int32) (a3 : Int32) (hok : ox_h_ifWritten m a1 a2 a3) : gMx l yX2_ifWritten wsX2_ifWritten rmx_h_ifWritten G shH q m h [.ref (q 0), .int a1, .int a2, .int a3] (fx_h_ifWritten m a1 a2 a3) m h := by
  intro sz
  refine g_metx (cc := cX2_ifWritten) (maxL := 4) (ret := (some .int)) (own := RX2) (by decide) rfl rfl (Nat.le_of_ble_eq_true rfl) (fun p e s m9 below meth c C hq hX htab => ?_)
  refine x_lv (lv' := [(0, .ref (q 0)), (1, .int a1), (2, .int a2), (3, .int a3)]) [0, 1, 2, 3] rfl ?_
  have hf := fx_h_ifWritten.eq_1 m a1 a2 a3
  have hok := Eq.mp (ox_h_ifWritten.eq_1 m a1 a2 a3) hok
  refine x_iload_n C dX2_ifWritten_0 rfl 1 rfl ?_
  refine x_bipush (v := (40 : Int32)) C dX2_ifWritten_1 (by decide) ?_
  have s1 := And.left hok
  have hok := And.right hok
  refine x_callSi (n := 2) C hq (gFr_pure gs_H_0_) (c_h_isIn l G (g_sel [] q) (g_sel [] m) (g_sel [] h) a1 (40 : Int32) s1) (va_cwS 2 C.2.2.2.2.2.1 gX2_ifWritten_X2_isIn rfl rfl rfl (by decide +kernel) ⟨Nat.le_of_ble_eq_true rfl, Nat.le_of_ble_eq_true rfl⟩) rfl rfl (Nat.le_of_ble_eq_true rfl) dX2_ifWritten_3 (Nat.zero_le _) (Nat.zero_le _) ?_
  refine x_if_ne (tgt := 19) C dX2_ifWritten_6 (by decide) (fun c2 => ?_) (fun c2 => ?_)
  · have hf := hf.trans (if_neg c2)
    have hok := g_in c2 hok
    refine x_iload_n C dX2_ifWritten_19 rfl 2 rfl ?_
    refine x_iconst (v := (4 : Int32)) C dX2_ifWritten_20 (by decide) ?_
    have s3 := And.left hok
    have hok := And.right hok
    refine x_callSi (n := 2) C hq (gFr_pure gs_H_0_) (c_h_isIn l G (g_sel [] q) (g_sel [] m) (g_sel [] h) a2 (4 : Int32) s3) (va_cwS 2 C.2.2.2.2.2.1 gX2_ifWritten_X2_isIn rfl rfl rfl (by decide +kernel) ⟨Nat.le_of_ble_eq_true rfl, Nat.le_of_ble_eq_true rfl⟩) rfl rfl (Nat.le_of_ble_eq_true rfl) dX2_ifWritten_21 (Nat.zero_le _) (Nat.zero_le _) ?_
    refine x_if_ne (tgt := 37) C dX2_ifWritten_24 (by decide) (fun c4 => ?_) (fun c4 => ?_)
    · have hf := hf.trans (if_neg c4)
      have hok := g_in c4 hok
      refine x_iload_n C dX2_ifWritten_37 rfl 3 rfl ?_
      refine x_iconst (v := (3 : Int32)) C dX2_ifWritten_38 (by decide) ?_
      have s5 := And.left hok
      have hok := And.right hok
      refine x_callSi (n := 2) C hq (gFr_pure gs_H_0_) (c_h_isIn l G (g_sel [] q) (g_sel [] m) (g_sel [] h) a3 (3 : Int32) s5) (va_cwS 2 C.2.2.2.2.2.1 gX2_ifWritten_X2_isIn rfl rfl rfl (by decide +kernel) ⟨Nat.le_of_ble_eq_true rfl, Nat.le_of_ble_eq_true rfl⟩) rfl rfl (Nat.le_of_ble_eq_true rfl) dX2_ifWritten_39 (Nat.zero_le _) (Nat.zero_le _) ?_
      refine x_if_ne (tgt := 55) C dX2_ifWritten_42 (by decide) (fun c6 => ?_) (fun c6 => ?_)
      · have hf := hf.trans (if_neg c6)
        have hok := g_in c6 hok
        refine x_aload_n C dX2_ifWritten_55 rfl 0 rfl ?_
        refine x_iload_n C dX2_ifWritten_56 rfl 1 rfl ?_
        refine x_iload_n C dX2_ifWritten_57 rfl 2 rfl ?_
        exact False.elim hok
      · have hf := hf.trans (if_pos c6)
        have hok := g_ip c6 hok
        refine x_lv (lv' := []) [] rfl ?_
        exact x_throw (cls := "java/lang/IllegalArgumentException") (text := "what out of range") (ik := 52) (is := 145) (ic := 56) C hl9 hX htab (by decide +kernel) xk_X2_ifWritten_IA xi_X2_ifWritten_IA (by decide +kernel) xg_X2_ifWritten_IA xb_IA xo_IA dX2_ifWritten_45 dX2_ifWritten_48 dX2_ifWritten_49 dX2_ifWritten_51 dX2_ifWritten_54 (Nat.le_of_ble_eq_true rfl) (Nat.le_of_ble_eq_true rfl) (Nat.le_refl _) (Nat.le_refl _) hf.symm rfl rfl
    · have hf := hf.trans (if_pos c4)
      have hok := g_ip c4 hok
      refine x_lv (lv' := []) [] rfl ?_
      exact x_throw (cls := "java/lang/IllegalArgumentException") (text := "hint out of range") (ik := 52) (is := 54) (ic := 56) C hl9 hX htab (by decide +kernel) xk_X2_ifWritten_IA xi_X2_ifWritten_IA (by decide +kernel) xg_X2_ifWritten_IA xb_IA xo_IA dX2_ifWritten_27 dX2_ifWritten_30 dX2_ifWritten_31 dX2_ifWritten_33 dX2_ifWritten_36 (Nat.le_of_ble_eq_true rfl) (Nat.le_of_ble_eq_true rfl) (Nat.le_refl _) (Nat.le_refl _) hf.symm rfl rfl
  · have hf := hf.trans (if_pos c2)
    have hok := g_ip c2 hok
    refine x_lv (lv' := []) [] rfl ?_
    exact x_throw (cls := "java/lang/IndexOutOfBoundsException") (text := "no such page") (ik := 45) (is := 47) (ic := 49) C hl9 hX htab (by decide +kernel) xk_X2_ifWritten_IO xi_X2_ifWritten_IO (by decide +kernel) xg_X2_ifWritten_IO xb_IO xo_IO dX2_ifWritten_9 dX2_ifWritten_12 dX2_ifWritten_13 dX2_ifWritten_15 dX2_ifWritten_18 (Nat.le_of_ble_eq_true rfl) (Nat.le_of_ble_eq_true rfl) (Nat.le_refl _) (Nat.le_refl _) hf.symm rfl rfl
set_option maxRecDepth 20000 in
theorem xk_X2_ifRewritten_IA : Cond.classLink RX2 52 "java/lang/IllegalArgumentException" ∈ wsX2_ifRewritten := by decide +kernel
set_option maxRecDepth 20000 in
theorem xi_X2_ifRewritten_IA : Cond.initialized "java/lang/IllegalArgumentException" ∈ wsX2_ifRewritten := by decide +kernel
theorem xg_X2_ifRewritten_IA : ∀ w ∈ (vx_atS RX2 56 "java/lang/IllegalArgumentException" g_ns).filter goodWord, w ∈ wsX2_ifRewritten := fun _ h => List.mem_cons_of_mem _ (List.mem_append_right _ h)
abbrev rmx_h_ifRewritten : Room := { frames := 6, cells := 1, slots := 6, locals := 82 }
noncomputable def fx_h_ifRewritten (m : gM) (a1 : Int32) : String := (if a1 < (1 : Int32) then "java/lang/IllegalArgumentException" else (if a1 ≤ (9 : Int32) then "" else "java/lang/IllegalArgumentException"))
noncomputable def ox_h_ifRewritten (m : gM) (a1 : Int32) : Prop := (if a1 < (1 : Int32) then True else (if a1 ≤ (9 : Int32) then False else True))
set_option maxRecDepth 100000 in
set_option maxHeartbeats 4000000 in
theorem cx_h_ifRewritten (l : Launch) (hl9 : l.stackTraces = false) (G : gG) (q : Nat → Nat) (m : gM) (h : gN) (a1 : Int32) (hok : ox_h_ifRewritten m a1) : gMx l yX2_ifRewritten wsX2_ifRewritten rmx_h_ifRewritten G shH q m h [.ref (q 0), .int a1] (fx_h_ifRewritten m a1) m h := by
  intro sz
  refine g_metx (cc := cX2_ifRewritten) (maxL := 2) (ret := (some .int)) (own := RX2) (by decide) rfl rfl (Nat.le_of_ble_eq_true rfl) (fun p e s m9 below meth c C hq hX htab => ?_)
  refine x_lv (lv' := [(0, .ref (q 0)), (1, .int a1)]) [0, 1] rfl ?_
  have hf := fx_h_ifRewritten.eq_1 m a1
  have hok := Eq.mp (ox_h_ifRewritten.eq_1 m a1) hok
  refine x_iload_n C dX2_ifRewritten_0 rfl 1 rfl ?_
  refine x_iconst (v := (1 : Int32)) C dX2_ifRewritten_1 (by decide) ?_
  refine x_icmp_lt (tgt := 11) C dX2_ifRewritten_2 (by decide) (fun c1 => ?_) (fun c1 => ?_)
  · have hf := hf.trans (if_pos c1)
    have hok := g_ip c1 hok
    refine x_lv (lv' := []) [] rfl ?_
    exact x_throw (cls := "java/lang/IllegalArgumentException") (text := "rounds out of range") (ik := 52) (is := 177) (ic := 56) C hl9 hX htab (by decide +kernel) xk_X2_ifRewritten_IA xi_X2_ifRewritten_IA (by decide +kernel) xg_X2_ifRewritten_IA xb_IA xo_IA dX2_ifRewritten_11 dX2_ifRewritten_14 dX2_ifRewritten_15 dX2_ifRewritten_17 dX2_ifRewritten_20 (Nat.le_of_ble_eq_true rfl) (Nat.le_of_ble_eq_true rfl) (Nat.le_refl _) (Nat.le_refl _) hf.symm rfl rfl
  · have hf := hf.trans (if_neg c1)
    have hok := g_in c1 hok
    refine x_iload_n C dX2_ifRewritten_5 rfl 1 rfl ?_
    refine x_bipush (v := (9 : Int32)) C dX2_ifRewritten_6 (by decide) ?_
    refine x_icmp_le (tgt := 21) C dX2_ifRewritten_8 (by decide) (fun c2 => ?_) (fun c2 => ?_)
    · have hf := hf.trans (if_pos c2)
      have hok := g_ip c2 hok
      refine x_aload_n C dX2_ifRewritten_21 rfl 0 rfl ?_
      refine x_aload_n C dX2_ifRewritten_22 rfl 0 rfl ?_
      refine x_get (v := .ref (q 4)) C in_X2_ifRewritten_2 0 rfl rfl 0 (by decide) k_X2_ifRewritten_10 rfl rfl dX2_ifRewritten_23 ?_
      refine x_get (v := .ref (q 19)) C in_X2_ifRewritten_1 4 rfl rfl 14 (by decide) k_X2_ifRewritten_112 rfl rfl dX2_ifRewritten_26 ?_
      refine x_iconst (v := (0 : Int32)) C dX2_ifRewritten_29 (by decide) ?_
      refine x_iald (n := 2) (v := (m 19 (0 : Int32).toNatClampNeg)) C 19 rfl (by unfold vp_in; decide) rfl dX2_ifRewritten_30 ?_
      refine x_iload_n C dX2_ifRewritten_31 rfl 1 rfl ?_
      exact False.elim hok
    · have hf := hf.trans (if_neg c2)
      have hok := g_in c2 hok
      refine x_lv (lv' := []) [] rfl ?_
      exact x_throw (cls := "java/lang/IllegalArgumentException") (text := "rounds out of range") (ik := 52) (is := 177) (ic := 56) C hl9 hX htab (by decide +kernel) xk_X2_ifRewritten_IA xi_X2_ifRewritten_IA (by decide +kernel) xg_X2_ifRewritten_IA xb_IA xo_IA dX2_ifRewritten_11 dX2_ifRewritten_14 dX2_ifRewritten_15 dX2_ifRewritten_17 dX2_ifRewritten_20 (Nat.le_of_ble_eq_true rfl) (Nat.le_of_ble_eq_true rfl) (Nat.le_refl _) (Nat.le_refl _) hf.symm rfl rfl
set_option maxRecDepth 20000 in
theorem xk_X2_bestRule_IA : Cond.classLink RX2 52 "java/lang/IllegalArgumentException" ∈ wsX2_bestRule := by decide +kernel
set_option maxRecDepth 20000 in
theorem xi_X2_bestRule_IA : Cond.initialized "java/lang/IllegalArgumentException" ∈ wsX2_bestRule := by decide +kernel
theorem xg_X2_bestRule_IA : ∀ w ∈ (vx_atS RX2 56 "java/lang/IllegalArgumentException" g_ns).filter goodWord, w ∈ wsX2_bestRule := fun _ h => List.mem_cons_of_mem _ (List.mem_append_right _ h)
abbrev rmx_h_bestRule : Room := { frames := 6, cells := 1, slots := 6, locals := 82 }
noncomputable def fx_h_bestRule (m : gM) (a1 : Int32) : String := (if a1 < (1 : Int32) then "java/lang/IllegalArgumentException" else (if a1 ≤ (9 : Int32) then "" else "java/lang/IllegalArgumentException"))
noncomputable def ox_h_bestRule (m : gM) (a1 : Int32) : Prop := (if a1 < (1 : Int32) then True else (if a1 ≤ (9 : Int32) then False else True))
set_option maxRecDepth 100000 in
set_option maxHeartbeats 4000000 in
theorem cx_h_bestRule (l : Launch) (hl9 : l.stackTraces = false) (G : gG) (q : Nat → Nat) (m : gM) (h : gN) (a1 : Int32) (hok : ox_h_bestRule m a1) : gMx l yX2_bestRule wsX2_bestRule rmx_h_bestRule G shH q m h [.ref (q 0), .int a1] (fx_h_bestRule m a1) m h := by
  intro sz
  refine g_metx (cc := cX2_bestRule) (maxL := 6) (ret := (some .int)) (own := RX2) (by decide) rfl rfl (Nat.le_of_ble_eq_true rfl) (fun p e s m9 below meth c C hq hX htab => ?_)
  refine x_lv (lv' := [(0, .ref (q 0)), (1, .int a1)]) [0, 1] rfl ?_
  have hf := fx_h_bestRule.eq_1 m a1
  have hok := Eq.mp (ox_h_bestRule.eq_1 m a1) hok
  refine x_iload_n C dX2_bestRule_0 rfl 1 rfl ?_
  refine x_iconst (v := (1 : Int32)) C dX2_bestRule_1 (by decide) ?_
  refine x_icmp_lt (tgt := 11) C dX2_bestRule_2 (by decide) (fun c1 => ?_) (fun c1 => ?_)
  · have hf := hf.trans (if_pos c1)
    have hok := g_ip c1 hok
    refine x_lv (lv' := []) [] rfl ?_
    exact x_throw (cls := "java/lang/IllegalArgumentException") (text := "rounds out of range") (ik := 52) (is := 177) (ic := 56) C hl9 hX htab (by decide +kernel) xk_X2_bestRule_IA xi_X2_bestRule_IA (by decide +kernel) xg_X2_bestRule_IA xb_IA xo_IA dX2_bestRule_11 dX2_bestRule_14 dX2_bestRule_15 dX2_bestRule_17 dX2_bestRule_20 (Nat.le_of_ble_eq_true rfl) (Nat.le_of_ble_eq_true rfl) (Nat.le_refl _) (Nat.le_refl _) hf.symm rfl rfl
  · have hf := hf.trans (if_neg c1)
    have hok := g_in c1 hok
    refine x_iload_n C dX2_bestRule_5 rfl 1 rfl ?_
    refine x_bipush (v := (9 : Int32)) C dX2_bestRule_6 (by decide) ?_
    refine x_icmp_le (tgt := 21) C dX2_bestRule_8 (by decide) (fun c2 => ?_) (fun c2 => ?_)
    · have hf := hf.trans (if_pos c2)
      have hok := g_ip c2 hok
      refine x_iconst (v := (0 : Int32)) C dX2_bestRule_21 (by decide) ?_
      exact False.elim hok
    · have hf := hf.trans (if_neg c2)
      have hok := g_in c2 hok
      refine x_lv (lv' := []) [] rfl ?_
      exact x_throw (cls := "java/lang/IllegalArgumentException") (text := "rounds out of range") (ik := 52) (is := 177) (ic := 56) C hl9 hX htab (by decide +kernel) xk_X2_bestRule_IA xi_X2_bestRule_IA (by decide +kernel) xg_X2_bestRule_IA xb_IA xo_IA dX2_bestRule_11 dX2_bestRule_14 dX2_bestRule_15 dX2_bestRule_17 dX2_bestRule_20 (Nat.le_of_ble_eq_true rfl) (Nat.le_of_ble_eq_true rfl) (Nat.le_refl _) (Nat.le_refl _) hf.symm rfl rfl
