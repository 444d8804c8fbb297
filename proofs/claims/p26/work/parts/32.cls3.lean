set_option maxRecDepth 20000 in
theorem in_X1_closedAheadOf_1 : ∀ w ∈ u_ws RX1 TX1 17, w ∈ wsX1_closedAheadOf := by decide +kernel
set_option maxRecDepth 20000 in
theorem k_X1_closedAheadOf_42 : Cond.fieldLink RX1 42 "HintedPages$Store" "closingOfBlock" "[I" ∈ wsX1_closedAheadOf := by decide +kernel
abbrev rm_s_closedAheadOf : Room := { frames := 1, cells := 0, slots := 0, locals := 21 }
noncomputable def L_s_closedAheadOf_15 (m : gM) (x1 : Int32) (z : Int32 × Int32) : Bool × (Int32 × Int32) := (if (12 : Int32) ≤ z.2 then (false, (z.1, z.2)) else (if (f_s_stateOf m z.2) = (2 : Int32) then (if (m 11 x1.toNatClampNeg) ≤ (m 11 z.2.toNatClampNeg) then g_let ((z.2 + (1 : Int32))) (fun z8 : Int32 => (true, (z.1, z8))) else g_let ((z.1 + (1 : Int32))) (fun z9 : Int32 => g_let ((z.2 + (1 : Int32))) (fun z10 : Int32 => (true, (z9, z10))))) else g_let ((z.2 + (1 : Int32))) (fun z4 : Int32 => (true, (z.1, z4)))))
noncomputable def K_s_closedAheadOf_15 (m : gM) (x1 : Int32) (z : Int32 × Int32) : Prop := (if (12 : Int32) ≤ z.2 then True else (o_s_stateOf m z.2) ∧ ((if (f_s_stateOf m z.2) = (2 : Int32) then (vp_in z.2 12) ∧ ((vp_in x1 12) ∧ ((if (m 11 x1.toNatClampNeg) ≤ (m 11 z.2.toNatClampNeg) then g_let ((z.2 + (1 : Int32))) (fun z8 : Int32 => True) else g_let ((z.1 + (1 : Int32))) (fun z9 : Int32 => g_let ((z.2 + (1 : Int32))) (fun z10 : Int32 => True))))) else g_let ((z.2 + (1 : Int32))) (fun z4 : Int32 => True))))
set_option maxRecDepth 100000 in
set_option maxHeartbeats 4000000 in
theorem lp_s_closedAheadOf_15 {p : Program} {l : Launch} {e : Env} {s : State} {m9 : MethodId} {args : Array Value} {below : List Frame} {meth : Method} {c : Code} {G : gG} {A : Nat → Prop} {Q : State → Prop} {q : Nat → Nat} (C : xC p s m9 args meth c G A 4 cX1_closedAheadOf RX1 wsX1_closedAheadOf) (hq : gD A q shS.length) (m : gM) (h : gN) (x1 : Int32) : ∀ (n : Nat) (z : Int32 × Int32), rOk (L_s_closedAheadOf_15 m x1) (K_s_closedAheadOf_15 m x1) n z → (∀ z' : Int32 × Int32, run (L_s_closedAheadOf_15 m x1) n z = z' → xJ p l e rm_s_closedAheadOf s m9 args below meth c G A 4 Q 0 0 shS q m h [(0, .ref (q 0)), (1, .int x1), (2, .int z'.1), (3, .int z'.2)] [] 54) → xJ p l e rm_s_closedAheadOf s m9 args below meth c G A 4 Q 0 0 shS q m h [(0, .ref (q 0)), (1, .int x1), (2, .int z.1), (3, .int z.2)] [] 15 := by
  intro n
  induction n with
  | zero =>
    intro z hok _
    exact rOk_0 hok
  | succ n ih =>
    intro z hok K0
    have hnx := rOk_2 hok
    have hok := rOk_1 hok
    have hf := L_s_closedAheadOf_15.eq_1 m x1 z
    have hok := Eq.mp (K_s_closedAheadOf_15.eq_1 m x1 z) hok
    refine x_iload_n C dX1_closedAheadOf_15 rfl 3 rfl ?_
    refine x_bipush (v := (12 : Int32)) C dX1_closedAheadOf_16 (by decide) ?_
    refine x_icmp_ge (tgt := 54) C dX1_closedAheadOf_18 (by decide) (fun c1 => ?_) (fun c1 => ?_)
    · have hf := hf.trans (if_pos c1)
      have hok := g_ip c1 hok
      exact K0 ((z.1, z.2)) (run_f hf)
    · have hf := hf.trans (if_neg c1)
      have hok := g_in c1 hok
      refine x_aload_n C dX1_closedAheadOf_21 rfl 0 rfl ?_
      refine x_iload_n C dX1_closedAheadOf_22 rfl 3 rfl ?_
      have s2 := And.left hok
      have hok := And.right hok
      refine x_callVi (n := 1) C hq gFr_same (c_s_stateOf l G q m h z.2 s2) (cwV 1 C.2.2.2.2.2.1 gX1_closedAheadOf_X1_stateOf rfl rfl rfl (by decide +kernel) ⟨Nat.le_of_ble_eq_true rfl, Nat.le_of_ble_eq_true rfl⟩) rfl rfl rfl rfl (Nat.le_of_ble_eq_true rfl) dX1_closedAheadOf_23 (Nat.zero_le _) (Nat.zero_le _) ?_
      refine x_iconst (v := (2 : Int32)) C dX1_closedAheadOf_26 (by decide) ?_
      refine x_icmp_ne (tgt := 48) C dX1_closedAheadOf_27 (by decide) (fun c3 => ?_) (fun c3 => ?_)
      · have hf := hf.trans (if_neg c3)
        have hok := g_in c3 hok
        obtain ⟨z4, hz4⟩ : ∃ y9 : Int32, y9 = (z.2 + (1 : Int32)) := ⟨_, rfl⟩
        have hf := hf.trans (g_let_eq hz4)
        have hok := g_let_p hz4 hok
        refine x_iinc (v := z4) (lv' := [(0, .ref (q 0)), (1, .int x1), (2, .int z.1), (3, .int z4)]) C dX1_closedAheadOf_48 3 rfl hz4.symm (by decide) [1, 2, 3, 0] rfl ?_
        refine x_goto (tgt := 15) C dX1_closedAheadOf_51 (by decide) ?_
        exact ih ((z.1, z4)) (rOk_t hnx hf) (fun z' hz => K0 z' ((run_t hf).trans hz))
      · have hf := hf.trans (if_pos c3)
        have hok := g_ip c3 hok
        refine x_aload_n C dX1_closedAheadOf_30 rfl 0 rfl ?_
        refine x_get (v := .ref (q 11)) C in_X1_closedAheadOf_1 0 rfl rfl 10 (by decide) k_X1_closedAheadOf_42 rfl rfl dX1_closedAheadOf_31 ?_
        refine x_iload_n C dX1_closedAheadOf_34 rfl 3 rfl ?_
        have s5 := And.left hok
        have hok := And.right hok
        refine x_iald (n := 12) (v := (m 11 z.2.toNatClampNeg)) C 11 rfl s5 rfl dX1_closedAheadOf_35 ?_
        refine x_aload_n C dX1_closedAheadOf_36 rfl 0 rfl ?_
        refine x_get (v := .ref (q 11)) C in_X1_closedAheadOf_1 0 rfl rfl 10 (by decide) k_X1_closedAheadOf_42 rfl rfl dX1_closedAheadOf_37 ?_
        refine x_iload_n C dX1_closedAheadOf_40 rfl 1 rfl ?_
        have s6 := And.left hok
        have hok := And.right hok
        refine x_iald (n := 12) (v := (m 11 x1.toNatClampNeg)) C 11 rfl s6 rfl dX1_closedAheadOf_41 ?_
        refine x_icmp_ge (tgt := 48) C dX1_closedAheadOf_42 (by decide) (fun c7 => ?_) (fun c7 => ?_)
        · have hf := hf.trans (if_pos c7)
          have hok := g_ip c7 hok
          obtain ⟨z8, hz8⟩ : ∃ y9 : Int32, y9 = (z.2 + (1 : Int32)) := ⟨_, rfl⟩
          have hf := hf.trans (g_let_eq hz8)
          have hok := g_let_p hz8 hok
          refine x_iinc (v := z8) (lv' := [(0, .ref (q 0)), (1, .int x1), (2, .int z.1), (3, .int z8)]) C dX1_closedAheadOf_48 3 rfl hz8.symm (by decide) [1, 2, 3, 0] rfl ?_
          refine x_goto (tgt := 15) C dX1_closedAheadOf_51 (by decide) ?_
          exact ih ((z.1, z8)) (rOk_t hnx hf) (fun z' hz => K0 z' ((run_t hf).trans hz))
        · have hf := hf.trans (if_neg c7)
          have hok := g_in c7 hok
          obtain ⟨z9, hz9⟩ : ∃ y9 : Int32, y9 = (z.1 + (1 : Int32)) := ⟨_, rfl⟩
          have hf := hf.trans (g_let_eq hz9)
          have hok := g_let_p hz9 hok
          refine x_iinc (v := z9) (lv' := [(0, .ref (q 0)), (1, .int x1), (2, .int z9), (3, .int z.2)]) C dX1_closedAheadOf_45 2 rfl hz9.symm (by decide) [1, 2, 0, 3] rfl ?_
          obtain ⟨z10, hz10⟩ : ∃ y9 : Int32, y9 = (z.2 + (1 : Int32)) := ⟨_, rfl⟩
          have hf := hf.trans (g_let_eq hz10)
          have hok := g_let_p hz10 hok
          refine x_iinc (v := z10) (lv' := [(0, .ref (q 0)), (1, .int x1), (2, .int z9), (3, .int z10)]) C dX1_closedAheadOf_48 3 rfl hz10.symm (by decide) [1, 2, 3, 0] rfl ?_
          refine x_goto (tgt := 15) C dX1_closedAheadOf_51 (by decide) ?_
          exact ih ((z9, z10)) (rOk_t hnx hf) (fun z' hz => K0 z' ((run_t hf).trans hz))
noncomputable def f_s_closedAheadOf (m : gM) (a1 : Int32) : Int32 := (if (f_s_stateOf m a1) = (2 : Int32) then g_let (run (L_s_closedAheadOf_15 m a1) 400 (((0 : Int32), (0 : Int32)))) (fun z4 : Int32 × Int32 => z4.1) else (-1 : Int32))
noncomputable def o_s_closedAheadOf (m : gM) (a1 : Int32) : Prop := (o_s_stateOf m a1) ∧ ((if (f_s_stateOf m a1) = (2 : Int32) then (rOk (L_s_closedAheadOf_15 m a1) (K_s_closedAheadOf_15 m a1) 400 (((0 : Int32), (0 : Int32)))) ∧ (g_let (run (L_s_closedAheadOf_15 m a1) 400 (((0 : Int32), (0 : Int32)))) (fun z4 : Int32 × Int32 => True)) else True))
set_option maxRecDepth 100000 in
set_option maxHeartbeats 4000000 in
theorem c_s_closedAheadOf (l : Launch) (G : gG) (q : Nat → Nat) (m : gM) (h : gN) (a1 : Int32) (hok : o_s_closedAheadOf m a1) : gMi l yX1_closedAheadOf wsX1_closedAheadOf rm_s_closedAheadOf G shS q m h [.ref (q 0), .int a1] m h (f_s_closedAheadOf m a1) := by
  intro sz
  refine g_met (cc := cX1_closedAheadOf) (maxL := 4) (ret := (some .int)) (own := RX1) (Qc := fun sz => gQi G shS q m h sz (f_s_closedAheadOf m a1)) (by decide) rfl rfl (Nat.le_of_ble_eq_true rfl) (fun p e s m9 below meth c C hq hr => ?_)
  refine x_lv (lv' := [(0, .ref (q 0)), (1, .int a1)]) [0, 1] rfl ?_
  have hf := f_s_closedAheadOf.eq_1 m a1
  have hok := Eq.mp (o_s_closedAheadOf.eq_1 m a1) hok
  refine x_aload_n C dX1_closedAheadOf_0 rfl 0 rfl ?_
  refine x_iload_n C dX1_closedAheadOf_1 rfl 1 rfl ?_
  have s1 := And.left hok
  have hok := And.right hok
  refine x_callVi (n := 1) C hq gFr_same (c_s_stateOf l G q m h a1 s1) (cwV 1 C.2.2.2.2.2.1 gX1_closedAheadOf_X1_stateOf rfl rfl rfl (by decide +kernel) ⟨Nat.le_of_ble_eq_true rfl, Nat.le_of_ble_eq_true rfl⟩) rfl rfl rfl rfl (Nat.le_of_ble_eq_true rfl) dX1_closedAheadOf_2 (Nat.zero_le _) (Nat.zero_le _) ?_
  refine x_iconst (v := (2 : Int32)) C dX1_closedAheadOf_5 (by decide) ?_
  refine x_icmp_eq (tgt := 11) C dX1_closedAheadOf_6 (by decide) (fun c2 => ?_) (fun c2 => ?_)
  · have hf := hf.trans (if_pos c2)
    have hok := g_ip c2 hok
    refine x_iconst (v := (0 : Int32)) C dX1_closedAheadOf_11 (by decide) ?_
    refine x_istore_n (lv' := [(0, .ref (q 0)), (1, .int a1), (2, .int (0 : Int32))]) C dX1_closedAheadOf_12 rfl (by decide) [1, 2, 0] rfl ?_
    refine x_iconst (v := (0 : Int32)) C dX1_closedAheadOf_13 (by decide) ?_
    refine x_istore_n (lv' := [(0, .ref (q 0)), (1, .int a1), (2, .int (0 : Int32)), (3, .int (0 : Int32))]) C dX1_closedAheadOf_14 rfl (by decide) [1, 2, 3, 0] rfl ?_
    have s3 := And.left hok
    have hok := And.right hok
    refine lp_s_closedAheadOf_15 C hq m h a1 400 (((0 : Int32), (0 : Int32))) s3 (fun z4 hz4 => ?_)
    have hf := hf.trans (g_let_eq hz4.symm)
    have hok := g_let_p hz4.symm hok
    refine x_iload_n C dX1_closedAheadOf_54 rfl 2 rfl ?_
    exact g_iret C hr rfl dX1_closedAheadOf_55 hf.symm rfl rfl
  · have hf := hf.trans (if_neg c2)
    have hok := g_in c2 hok
    refine x_iconst (v := (-1 : Int32)) C dX1_closedAheadOf_9 (by decide) ?_
    exact g_iret C hr rfl dX1_closedAheadOf_10 hf.symm rfl rfl
set_option maxRecDepth 20000 in
theorem gs_S_0_ : gSub shS sh0 [] := ⟨by decide, rfl⟩
set_option maxRecDepth 20000 in
theorem in_X1_unlikeHintsOf_1 : ∀ w ∈ u_ws RX1 TX1 17, w ∈ wsX1_unlikeHintsOf := by decide +kernel
set_option maxRecDepth 20000 in
theorem k_X1_unlikeHintsOf_15 : Cond.fieldLink RX1 15 "HintedPages$Store" "hintOfPage" "[I" ∈ wsX1_unlikeHintsOf := by decide +kernel
abbrev rm_s_unlikeHintsOf : Room := { frames := 1, cells := 0, slots := 0, locals := 22 }
noncomputable def L_s_unlikeHintsOf_4 (m : gM) (x1 : Int32) (z : Int32 × Int32) : Bool × (Int32 × Int32) := (if (8 : Int32) ≤ z.2 then (false, (z.1, z.2)) else g_let ((f_s_validPageAt m ((x1 * (8 : Int32)) + z.2))) (fun z3 : Int32 => (if z3 = (-1 : Int32) then g_let ((z.2 + (1 : Int32))) (fun z5 : Int32 => (true, (z.1, z5))) else g_let ((z.1 ||| ((1 : Int32) <<< ((m 2 z3.toNatClampNeg) &&& 31)))) (fun z7 : Int32 => g_let ((z.2 + (1 : Int32))) (fun z8 : Int32 => (true, (z7, z8)))))))
noncomputable def K_s_unlikeHintsOf_4 (m : gM) (x1 : Int32) (z : Int32 × Int32) : Prop := (if (8 : Int32) ≤ z.2 then True else (o_s_validPageAt m ((x1 * (8 : Int32)) + z.2)) ∧ (g_let ((f_s_validPageAt m ((x1 * (8 : Int32)) + z.2))) (fun z3 : Int32 => (if z3 = (-1 : Int32) then g_let ((z.2 + (1 : Int32))) (fun z5 : Int32 => True) else (vp_in z3 40) ∧ (g_let ((z.1 ||| ((1 : Int32) <<< ((m 2 z3.toNatClampNeg) &&& 31)))) (fun z7 : Int32 => g_let ((z.2 + (1 : Int32))) (fun z8 : Int32 => True)))))))
set_option maxRecDepth 100000 in
set_option maxHeartbeats 4000000 in
theorem lp_s_unlikeHintsOf_4 {p : Program} {l : Launch} {e : Env} {s : State} {m9 : MethodId} {args : Array Value} {below : List Frame} {meth : Method} {c : Code} {G : gG} {A : Nat → Prop} {Q : State → Prop} {q : Nat → Nat} (C : xC p s m9 args meth c G A 5 cX1_unlikeHintsOf RX1 wsX1_unlikeHintsOf) (hq : gD A q shS.length) (m : gM) (h : gN) (x1 : Int32) : ∀ (n : Nat) (z : Int32 × Int32), rOk (L_s_unlikeHintsOf_4 m x1) (K_s_unlikeHintsOf_4 m x1) n z → (∀ z' : Int32 × Int32, run (L_s_unlikeHintsOf_4 m x1) n z = z' → xJ p l e rm_s_unlikeHintsOf s m9 args below meth c G A 5 Q 0 0 shS q m h [(0, .ref (q 0)), (1, .int x1), (2, .int z'.1), (3, .int z'.2)] [] 46) → xJ p l e rm_s_unlikeHintsOf s m9 args below meth c G A 5 Q 0 0 shS q m h [(0, .ref (q 0)), (1, .int x1), (2, .int z.1), (3, .int z.2)] [] 4 := by
  intro n
  induction n with
  | zero =>
    intro z hok _
    exact rOk_0 hok
  | succ n ih =>
    intro z hok K0
    have hnx := rOk_2 hok
    have hok := rOk_1 hok
    have hf := L_s_unlikeHintsOf_4.eq_1 m x1 z
    have hok := Eq.mp (K_s_unlikeHintsOf_4.eq_1 m x1 z) hok
    refine x_iload_n C dX1_unlikeHintsOf_4 rfl 3 rfl ?_
    refine x_bipush (v := (8 : Int32)) C dX1_unlikeHintsOf_5 (by decide) ?_
    refine x_icmp_ge (tgt := 46) C dX1_unlikeHintsOf_7 (by decide) (fun c1 => ?_) (fun c1 => ?_)
    · have hf := hf.trans (if_pos c1)
      have hok := g_ip c1 hok
      exact K0 ((z.1, z.2)) (run_f hf)
    · have hf := hf.trans (if_neg c1)
      have hok := g_in c1 hok
      refine x_aload_n C dX1_unlikeHintsOf_10 rfl 0 rfl ?_
      refine x_iload_n C dX1_unlikeHintsOf_11 rfl 1 rfl ?_
      refine x_bipush (v := (8 : Int32)) C dX1_unlikeHintsOf_12 (by decide) ?_
      refine x_imul C dX1_unlikeHintsOf_14 ?_
      refine x_iload_n C dX1_unlikeHintsOf_15 rfl 3 rfl ?_
      refine x_iadd C dX1_unlikeHintsOf_16 ?_
      have s2 := And.left hok
      have hok := And.right hok
      refine x_callVi (n := 1) C hq gFr_same (c_s_validPageAt l G q m h ((x1 * (8 : Int32)) + z.2) s2) (cwV 1 C.2.2.2.2.2.1 gX1_unlikeHintsOf_X1_validPageAt rfl rfl rfl (by decide +kernel) ⟨Nat.le_of_ble_eq_true rfl, Nat.le_of_ble_eq_true rfl⟩) rfl rfl rfl rfl (Nat.le_of_ble_eq_true rfl) dX1_unlikeHintsOf_17 (Nat.zero_le _) (Nat.zero_le _) ?_
      obtain ⟨z3, hz3⟩ : ∃ y9 : Int32, y9 = (f_s_validPageAt m ((x1 * (8 : Int32)) + z.2)) := ⟨_, rfl⟩
      have hf := hf.trans (g_let_eq hz3)
      have hok := g_let_p hz3 hok
      refine x_topi hz3 ?_
      refine x_istore (lv' := [(0, .ref (q 0)), (1, .int x1), (2, .int z.1), (3, .int z.2), (4, .int z3)]) C dX1_unlikeHintsOf_20 (by decide) [1, 2, 3, 4, 0] rfl ?_
      refine x_iload C dX1_unlikeHintsOf_22 4 rfl ?_
      refine x_iconst (v := (-1 : Int32)) C dX1_unlikeHintsOf_24 (by decide) ?_
      refine x_icmp_eq (tgt := 40) C dX1_unlikeHintsOf_25 (by decide) (fun c4 => ?_) (fun c4 => ?_)
      · have hf := hf.trans (if_pos c4)
        have hok := g_ip c4 hok
        obtain ⟨z5, hz5⟩ : ∃ y9 : Int32, y9 = (z.2 + (1 : Int32)) := ⟨_, rfl⟩
        have hf := hf.trans (g_let_eq hz5)
        have hok := g_let_p hz5 hok
        refine x_iinc (v := z5) (lv' := [(0, .ref (q 0)), (1, .int x1), (2, .int z.1), (3, .int z5), (4, .int z3)]) C dX1_unlikeHintsOf_40 3 rfl hz5.symm (by decide) [1, 2, 3, 0, 4] rfl ?_
        refine x_goto (tgt := 4) C dX1_unlikeHintsOf_43 (by decide) ?_
        refine x_lv (lv' := [(0, .ref (q 0)), (1, .int x1), (2, .int z.1), (3, .int z5)]) [0, 1, 2, 3] rfl ?_
        exact ih ((z.1, z5)) (rOk_t hnx hf) (fun z' hz => K0 z' ((run_t hf).trans hz))
      · have hf := hf.trans (if_neg c4)
        have hok := g_in c4 hok
        refine x_iload_n C dX1_unlikeHintsOf_28 rfl 2 rfl ?_
        refine x_iconst (v := (1 : Int32)) C dX1_unlikeHintsOf_29 (by decide) ?_
        refine x_aload_n C dX1_unlikeHintsOf_30 rfl 0 rfl ?_
        refine x_get (v := .ref (q 2)) C in_X1_unlikeHintsOf_1 0 rfl rfl 1 (by decide) k_X1_unlikeHintsOf_15 rfl rfl dX1_unlikeHintsOf_31 ?_
        refine x_iload C dX1_unlikeHintsOf_34 4 rfl ?_
        have s6 := And.left hok
        have hok := And.right hok
        refine x_iald (n := 40) (v := (m 2 z3.toNatClampNeg)) C 2 rfl s6 rfl dX1_unlikeHintsOf_36 ?_
        refine x_ishl C dX1_unlikeHintsOf_37 ?_
        refine x_ior C dX1_unlikeHintsOf_38 ?_
        obtain ⟨z7, hz7⟩ : ∃ y9 : Int32, y9 = (z.1 ||| ((1 : Int32) <<< ((m 2 z3.toNatClampNeg) &&& 31))) := ⟨_, rfl⟩
        have hf := hf.trans (g_let_eq hz7)
        have hok := g_let_p hz7 hok
        refine x_topi hz7 ?_
        refine x_istore_n (lv' := [(0, .ref (q 0)), (1, .int x1), (2, .int z7), (3, .int z.2), (4, .int z3)]) C dX1_unlikeHintsOf_39 rfl (by decide) [1, 2, 0, 3, 4] rfl ?_
        obtain ⟨z8, hz8⟩ : ∃ y9 : Int32, y9 = (z.2 + (1 : Int32)) := ⟨_, rfl⟩
        have hf := hf.trans (g_let_eq hz8)
        have hok := g_let_p hz8 hok
        refine x_iinc (v := z8) (lv' := [(0, .ref (q 0)), (1, .int x1), (2, .int z7), (3, .int z8), (4, .int z3)]) C dX1_unlikeHintsOf_40 3 rfl hz8.symm (by decide) [1, 2, 3, 0, 4] rfl ?_
        refine x_goto (tgt := 4) C dX1_unlikeHintsOf_43 (by decide) ?_
        refine x_lv (lv' := [(0, .ref (q 0)), (1, .int x1), (2, .int z7), (3, .int z8)]) [0, 1, 2, 3] rfl ?_
        exact ih ((z7, z8)) (rOk_t hnx hf) (fun z' hz => K0 z' ((run_t hf).trans hz))
noncomputable def f_s_unlikeHintsOf (m : gM) (a1 : Int32) : Int32 := g_let (run (L_s_unlikeHintsOf_4 m a1) 400 (((0 : Int32), (0 : Int32)))) (fun z2 : Int32 × Int32 => (f_j_bitCount z2.1))
noncomputable def o_s_unlikeHintsOf (m : gM) (a1 : Int32) : Prop := (rOk (L_s_unlikeHintsOf_4 m a1) (K_s_unlikeHintsOf_4 m a1) 400 (((0 : Int32), (0 : Int32)))) ∧ (g_let (run (L_s_unlikeHintsOf_4 m a1) 400 (((0 : Int32), (0 : Int32)))) (fun z2 : Int32 × Int32 => (o_j_bitCount z2.1) ∧ (True)))
set_option maxRecDepth 100000 in
set_option maxHeartbeats 4000000 in
theorem c_s_unlikeHintsOf (l : Launch) (G : gG) (q : Nat → Nat) (m : gM) (h : gN) (a1 : Int32) (hok : o_s_unlikeHintsOf m a1) : gMi l yX1_unlikeHintsOf wsX1_unlikeHintsOf rm_s_unlikeHintsOf G shS q m h [.ref (q 0), .int a1] m h (f_s_unlikeHintsOf m a1) := by
  intro sz
  refine g_met (cc := cX1_unlikeHintsOf) (maxL := 5) (ret := (some .int)) (own := RX1) (Qc := fun sz => gQi G shS q m h sz (f_s_unlikeHintsOf m a1)) (by decide) rfl rfl (Nat.le_of_ble_eq_true rfl) (fun p e s m9 below meth c C hq hr => ?_)
  refine x_lv (lv' := [(0, .ref (q 0)), (1, .int a1)]) [0, 1] rfl ?_
  have hf := f_s_unlikeHintsOf.eq_1 m a1
  have hok := Eq.mp (o_s_unlikeHintsOf.eq_1 m a1) hok
  refine x_iconst (v := (0 : Int32)) C dX1_unlikeHintsOf_0 (by decide) ?_
  refine x_istore_n (lv' := [(0, .ref (q 0)), (1, .int a1), (2, .int (0 : Int32))]) C dX1_unlikeHintsOf_1 rfl (by decide) [1, 2, 0] rfl ?_
  refine x_iconst (v := (0 : Int32)) C dX1_unlikeHintsOf_2 (by decide) ?_
  refine x_istore_n (lv' := [(0, .ref (q 0)), (1, .int a1), (2, .int (0 : Int32)), (3, .int (0 : Int32))]) C dX1_unlikeHintsOf_3 rfl (by decide) [1, 2, 3, 0] rfl ?_
  have s1 := And.left hok
  have hok := And.right hok
  refine lp_s_unlikeHintsOf_4 C hq m h a1 400 (((0 : Int32), (0 : Int32))) s1 (fun z2 hz2 => ?_)
  have hf := hf.trans (g_let_eq hz2.symm)
  have hok := g_let_p hz2.symm hok
  refine x_iload_n C dX1_unlikeHintsOf_46 rfl 2 rfl ?_
  have s3 := And.left hok
  have hok := And.right hok
  refine x_callSi (n := 1) C hq (gFr_pure gs_S_0_) (c_j_bitCount l G (g_sel [] q) (g_sel [] m) (g_sel [] h) z2.1 s3) (va_cwS 1 C.2.2.2.2.2.1 gX1_unlikeHintsOf_J6_bitCount_0f7a4 rfl rfl rfl (by decide +kernel) ⟨Nat.le_of_ble_eq_true rfl, Nat.le_of_ble_eq_true rfl⟩) rfl rfl (Nat.le_of_ble_eq_true rfl) dX1_unlikeHintsOf_47 (Nat.zero_le _) (Nat.zero_le _) ?_
  exact g_iret C hr rfl dX1_unlikeHintsOf_50 hf.symm rfl rfl
set_option maxRecDepth 20000 in
theorem in_X1_pagesWithHint_1 : ∀ w ∈ u_ws RX1 TX1 17, w ∈ wsX1_pagesWithHint := by decide +kernel
set_option maxRecDepth 20000 in
theorem k_X1_pagesWithHint_15 : Cond.fieldLink RX1 15 "HintedPages$Store" "hintOfPage" "[I" ∈ wsX1_pagesWithHint := by decide +kernel
abbrev rm_s_pagesWithHint : Room := { frames := 1, cells := 0, slots := 0, locals := 21 }
noncomputable def L_s_pagesWithHint_4 (m : gM) (x1 : Int32) (z : Int32 × Int32) : Bool × (Int32 × Int32) := (if (40 : Int32) ≤ z.2 then (false, (z.1, z.2)) else (if (f_s_isWritten m z.2) = 0 then g_let ((z.2 + (1 : Int32))) (fun z4 : Int32 => (true, (z.1, z4))) else (if (m 2 z.2.toNatClampNeg) = x1 then g_let ((z.1 + (1 : Int32))) (fun z8 : Int32 => g_let ((z.2 + (1 : Int32))) (fun z9 : Int32 => (true, (z8, z9)))) else g_let ((z.2 + (1 : Int32))) (fun z7 : Int32 => (true, (z.1, z7))))))
noncomputable def K_s_pagesWithHint_4 (m : gM) (x1 : Int32) (z : Int32 × Int32) : Prop := (if (40 : Int32) ≤ z.2 then True else (o_s_isWritten m z.2) ∧ ((if (f_s_isWritten m z.2) = 0 then g_let ((z.2 + (1 : Int32))) (fun z4 : Int32 => True) else (vp_in z.2 40) ∧ ((if (m 2 z.2.toNatClampNeg) = x1 then g_let ((z.1 + (1 : Int32))) (fun z8 : Int32 => g_let ((z.2 + (1 : Int32))) (fun z9 : Int32 => True)) else g_let ((z.2 + (1 : Int32))) (fun z7 : Int32 => True))))))
set_option maxRecDepth 100000 in
set_option maxHeartbeats 4000000 in
theorem lp_s_pagesWithHint_4 {p : Program} {l : Launch} {e : Env} {s : State} {m9 : MethodId} {args : Array Value} {below : List Frame} {meth : Method} {c : Code} {G : gG} {A : Nat → Prop} {Q : State → Prop} {q : Nat → Nat} (C : xC p s m9 args meth c G A 4 cX1_pagesWithHint RX1 wsX1_pagesWithHint) (hq : gD A q shS.length) (m : gM) (h : gN) (x1 : Int32) : ∀ (n : Nat) (z : Int32 × Int32), rOk (L_s_pagesWithHint_4 m x1) (K_s_pagesWithHint_4 m x1) n z → (∀ z' : Int32 × Int32, run (L_s_pagesWithHint_4 m x1) n z = z' → xJ p l e rm_s_pagesWithHint s m9 args below meth c G A 4 Q 0 0 shS q m h [(0, .ref (q 0)), (1, .int x1), (2, .int z'.1), (3, .int z'.2)] [] 37) → xJ p l e rm_s_pagesWithHint s m9 args below meth c G A 4 Q 0 0 shS q m h [(0, .ref (q 0)), (1, .int x1), (2, .int z.1), (3, .int z.2)] [] 4 := by
  intro n
  induction n with
  | zero =>
    intro z hok _
    exact rOk_0 hok
  | succ n ih =>
    intro z hok K0
    have hnx := rOk_2 hok
    have hok := rOk_1 hok
    have hf := L_s_pagesWithHint_4.eq_1 m x1 z
    have hok := Eq.mp (K_s_pagesWithHint_4.eq_1 m x1 z) hok
    refine x_iload_n C dX1_pagesWithHint_4 rfl 3 rfl ?_
    refine x_bipush (v := (40 : Int32)) C dX1_pagesWithHint_5 (by decide) ?_
    refine x_icmp_ge (tgt := 37) C dX1_pagesWithHint_7 (by decide) (fun c1 => ?_) (fun c1 => ?_)
    · have hf := hf.trans (if_pos c1)
      have hok := g_ip c1 hok
      exact K0 ((z.1, z.2)) (run_f hf)
    · have hf := hf.trans (if_neg c1)
      have hok := g_in c1 hok
      refine x_aload_n C dX1_pagesWithHint_10 rfl 0 rfl ?_
      refine x_iload_n C dX1_pagesWithHint_11 rfl 3 rfl ?_
      have s2 := And.left hok
      have hok := And.right hok
      refine x_callVi (n := 1) C hq gFr_same (c_s_isWritten l G q m h z.2 s2) (cwV 1 C.2.2.2.2.2.1 gX1_pagesWithHint_X1_isWritten rfl rfl rfl (by decide +kernel) ⟨Nat.le_of_ble_eq_true rfl, Nat.le_of_ble_eq_true rfl⟩) rfl rfl rfl rfl (Nat.le_of_ble_eq_true rfl) dX1_pagesWithHint_12 (Nat.zero_le _) (Nat.zero_le _) ?_
      refine x_if_eq (tgt := 31) C dX1_pagesWithHint_15 (by decide) (fun c3 => ?_) (fun c3 => ?_)
      · have hf := hf.trans (if_pos c3)
        have hok := g_ip c3 hok
        obtain ⟨z4, hz4⟩ : ∃ y9 : Int32, y9 = (z.2 + (1 : Int32)) := ⟨_, rfl⟩
        have hf := hf.trans (g_let_eq hz4)
        have hok := g_let_p hz4 hok
        refine x_iinc (v := z4) (lv' := [(0, .ref (q 0)), (1, .int x1), (2, .int z.1), (3, .int z4)]) C dX1_pagesWithHint_31 3 rfl hz4.symm (by decide) [1, 2, 3, 0] rfl ?_
        refine x_goto (tgt := 4) C dX1_pagesWithHint_34 (by decide) ?_
        exact ih ((z.1, z4)) (rOk_t hnx hf) (fun z' hz => K0 z' ((run_t hf).trans hz))
      · have hf := hf.trans (if_neg c3)
        have hok := g_in c3 hok
        refine x_aload_n C dX1_pagesWithHint_18 rfl 0 rfl ?_
        refine x_get (v := .ref (q 2)) C in_X1_pagesWithHint_1 0 rfl rfl 1 (by decide) k_X1_pagesWithHint_15 rfl rfl dX1_pagesWithHint_19 ?_
        refine x_iload_n C dX1_pagesWithHint_22 rfl 3 rfl ?_
        have s5 := And.left hok
        have hok := And.right hok
        refine x_iald (n := 40) (v := (m 2 z.2.toNatClampNeg)) C 2 rfl s5 rfl dX1_pagesWithHint_23 ?_
        refine x_iload_n C dX1_pagesWithHint_24 rfl 1 rfl ?_
        refine x_icmp_ne (tgt := 31) C dX1_pagesWithHint_25 (by decide) (fun c6 => ?_) (fun c6 => ?_)
        · have hf := hf.trans (if_neg c6)
          have hok := g_in c6 hok
          obtain ⟨z7, hz7⟩ : ∃ y9 : Int32, y9 = (z.2 + (1 : Int32)) := ⟨_, rfl⟩
          have hf := hf.trans (g_let_eq hz7)
          have hok := g_let_p hz7 hok
          refine x_iinc (v := z7) (lv' := [(0, .ref (q 0)), (1, .int x1), (2, .int z.1), (3, .int z7)]) C dX1_pagesWithHint_31 3 rfl hz7.symm (by decide) [1, 2, 3, 0] rfl ?_
          refine x_goto (tgt := 4) C dX1_pagesWithHint_34 (by decide) ?_
          exact ih ((z.1, z7)) (rOk_t hnx hf) (fun z' hz => K0 z' ((run_t hf).trans hz))
        · have hf := hf.trans (if_pos c6)
          have hok := g_ip c6 hok
          obtain ⟨z8, hz8⟩ : ∃ y9 : Int32, y9 = (z.1 + (1 : Int32)) := ⟨_, rfl⟩
          have hf := hf.trans (g_let_eq hz8)
          have hok := g_let_p hz8 hok
          refine x_iinc (v := z8) (lv' := [(0, .ref (q 0)), (1, .int x1), (2, .int z8), (3, .int z.2)]) C dX1_pagesWithHint_28 2 rfl hz8.symm (by decide) [1, 2, 0, 3] rfl ?_
          obtain ⟨z9, hz9⟩ : ∃ y9 : Int32, y9 = (z.2 + (1 : Int32)) := ⟨_, rfl⟩
          have hf := hf.trans (g_let_eq hz9)
          have hok := g_let_p hz9 hok
          refine x_iinc (v := z9) (lv' := [(0, .ref (q 0)), (1, .int x1), (2, .int z8), (3, .int z9)]) C dX1_pagesWithHint_31 3 rfl hz9.symm (by decide) [1, 2, 3, 0] rfl ?_
          refine x_goto (tgt := 4) C dX1_pagesWithHint_34 (by decide) ?_
          exact ih ((z8, z9)) (rOk_t hnx hf) (fun z' hz => K0 z' ((run_t hf).trans hz))
noncomputable def f_s_pagesWithHint (m : gM) (a1 : Int32) : Int32 := g_let (run (L_s_pagesWithHint_4 m a1) 400 (((0 : Int32), (0 : Int32)))) (fun z2 : Int32 × Int32 => z2.1)
noncomputable def o_s_pagesWithHint (m : gM) (a1 : Int32) : Prop := (rOk (L_s_pagesWithHint_4 m a1) (K_s_pagesWithHint_4 m a1) 400 (((0 : Int32), (0 : Int32)))) ∧ (g_let (run (L_s_pagesWithHint_4 m a1) 400 (((0 : Int32), (0 : Int32)))) (fun z2 : Int32 × Int32 => True))
set_option maxRecDepth 100000 in
set_option maxHeartbeats 4000000 in
theorem c_s_pagesWithHint (l : Launch) (G : gG) (q : Nat → Nat) (m : gM) (h : gN) (a1 : Int32) (hok : o_s_pagesWithHint m a1) : gMi l yX1_pagesWithHint wsX1_pagesWithHint rm_s_pagesWithHint G shS q m h [.ref (q 0), .int a1] m h (f_s_pagesWithHint m a1) := by
  intro sz
  refine g_met (cc := cX1_pagesWithHint) (maxL := 4) (ret := (some .int)) (own := RX1) (Qc := fun sz => gQi G shS q m h sz (f_s_pagesWithHint m a1)) (by decide) rfl rfl (Nat.le_of_ble_eq_true rfl) (fun p e s m9 below meth c C hq hr => ?_)
  refine x_lv (lv' := [(0, .ref (q 0)), (1, .int a1)]) [0, 1] rfl ?_
  have hf := f_s_pagesWithHint.eq_1 m a1
  have hok := Eq.mp (o_s_pagesWithHint.eq_1 m a1) hok
  refine x_iconst (v := (0 : Int32)) C dX1_pagesWithHint_0 (by decide) ?_
  refine x_istore_n (lv' := [(0, .ref (q 0)), (1, .int a1), (2, .int (0 : Int32))]) C dX1_pagesWithHint_1 rfl (by decide) [1, 2, 0] rfl ?_
  refine x_iconst (v := (0 : Int32)) C dX1_pagesWithHint_2 (by decide) ?_
  refine x_istore_n (lv' := [(0, .ref (q 0)), (1, .int a1), (2, .int (0 : Int32)), (3, .int (0 : Int32))]) C dX1_pagesWithHint_3 rfl (by decide) [1, 2, 3, 0] rfl ?_
  have s1 := And.left hok
  have hok := And.right hok
  refine lp_s_pagesWithHint_4 C hq m h a1 400 (((0 : Int32), (0 : Int32))) s1 (fun z2 hz2 => ?_)
  have hf := hf.trans (g_let_eq hz2.symm)
  have hok := g_let_p hz2.symm hok
  refine x_iload_n C dX1_pagesWithHint_37 rfl 2 rfl ?_
  exact g_iret C hr rfl dX1_pagesWithHint_38 hf.symm rfl rfl
set_option maxRecDepth 20000 in
theorem in_X1_percentOf_1 : ∀ w ∈ u_ws RX1 TX1 17, w ∈ wsX1_percentOf := by decide +kernel
set_option maxRecDepth 20000 in
theorem k_X1_percentOf_48 : Cond.fieldLink RX1 48 "HintedPages$Store" "programmedOfStream" "[I" ∈ wsX1_percentOf := by decide +kernel
set_option maxRecDepth 20000 in
theorem k_X1_percentOf_51 : Cond.fieldLink RX1 51 "HintedPages$Store" "copiesOfStream" "[I" ∈ wsX1_percentOf := by decide +kernel
abbrev rm_s_percentOf : Room := { frames := 0, cells := 0, slots := 0, locals := 0 }
noncomputable def f_s_percentOf (m : gM) (a1 : Int32) : Int32 := g_let ((m 13 a1.toNatClampNeg)) (fun z2 : Int32 => (if z2 = 0 then (0 : Int32) else (((100 : Int32) * (z2 + (m 14 a1.toNatClampNeg))) / z2)))
noncomputable def o_s_percentOf (m : gM) (a1 : Int32) : Prop := (vp_in a1 5) ∧ (g_let ((m 13 a1.toNatClampNeg)) (fun z2 : Int32 => (if z2 = 0 then True else (vp_in a1 5) ∧ ((¬ z2 = 0) ∧ (True)))))
set_option maxRecDepth 100000 in
set_option maxHeartbeats 4000000 in
theorem c_s_percentOf (l : Launch) (G : gG) (q : Nat → Nat) (m : gM) (h : gN) (a1 : Int32) (hok : o_s_percentOf m a1) : gMi l yX1_percentOf wsX1_percentOf rm_s_percentOf G shS q m h [.ref (q 0), .int a1] m h (f_s_percentOf m a1) := by
  intro sz
  refine g_met (cc := cX1_percentOf) (maxL := 3) (ret := (some .int)) (own := RX1) (Qc := fun sz => gQi G shS q m h sz (f_s_percentOf m a1)) (by decide) rfl rfl (Nat.le_of_ble_eq_true rfl) (fun p e s m9 below meth c C hq hr => ?_)
  refine x_lv (lv' := [(0, .ref (q 0)), (1, .int a1)]) [0, 1] rfl ?_
  have hf := f_s_percentOf.eq_1 m a1
  have hok := Eq.mp (o_s_percentOf.eq_1 m a1) hok
  refine x_aload_n C dX1_percentOf_0 rfl 0 rfl ?_
  refine x_get (v := .ref (q 13)) C in_X1_percentOf_1 0 rfl rfl 12 (by decide) k_X1_percentOf_48 rfl rfl dX1_percentOf_1 ?_
  refine x_iload_n C dX1_percentOf_4 rfl 1 rfl ?_
  have s1 := And.left hok
  have hok := And.right hok
  refine x_iald (n := 5) (v := (m 13 a1.toNatClampNeg)) C 13 rfl s1 rfl dX1_percentOf_5 ?_
  obtain ⟨z2, hz2⟩ : ∃ y9 : Int32, y9 = (m 13 a1.toNatClampNeg) := ⟨_, rfl⟩
  have hf := hf.trans (g_let_eq hz2)
  have hok := g_let_p hz2 hok
  refine x_topi hz2 ?_
  refine x_istore_n (lv' := [(0, .ref (q 0)), (1, .int a1), (2, .int z2)]) C dX1_percentOf_6 rfl (by decide) [1, 2, 0] rfl ?_
  refine x_iload_n C dX1_percentOf_7 rfl 2 rfl ?_
  refine x_if_ne (tgt := 15) C dX1_percentOf_8 (by decide) (fun c3 => ?_) (fun c3 => ?_)
  · have hf := hf.trans (if_neg c3)
    have hok := g_in c3 hok
    refine x_bipush (v := (100 : Int32)) C dX1_percentOf_15 (by decide) ?_
    refine x_iload_n C dX1_percentOf_17 rfl 2 rfl ?_
    refine x_aload_n C dX1_percentOf_18 rfl 0 rfl ?_
    refine x_get (v := .ref (q 14)) C in_X1_percentOf_1 0 rfl rfl 13 (by decide) k_X1_percentOf_51 rfl rfl dX1_percentOf_19 ?_
    refine x_iload_n C dX1_percentOf_22 rfl 1 rfl ?_
    have s4 := And.left hok
    have hok := And.right hok
    refine x_iald (n := 5) (v := (m 14 a1.toNatClampNeg)) C 14 rfl s4 rfl dX1_percentOf_23 ?_
    refine x_iadd C dX1_percentOf_24 ?_
    refine x_imul C dX1_percentOf_25 ?_
    refine x_iload_n C dX1_percentOf_26 rfl 2 rfl ?_
    have s5 := And.left hok
    have hok := And.right hok
    refine x_idiv C dX1_percentOf_27 s5 ?_
    exact g_iret C hr rfl dX1_percentOf_28 hf.symm rfl rfl
  · have hf := hf.trans (if_pos c3)
    have hok := g_ip c3 hok
    refine x_iconst (v := (0 : Int32)) C dX1_percentOf_11 (by decide) ?_
    refine x_goto (tgt := 28) C dX1_percentOf_12 (by decide) ?_
    exact g_iret C hr rfl dX1_percentOf_28 hf.symm rfl rfl
set_option maxRecDepth 20000 in
theorem in_X1_pageProperty_1 : ∀ w ∈ u_ws RX1 TX1 17, w ∈ wsX1_pageProperty := by decide +kernel
set_option maxRecDepth 20000 in
theorem k_X1_pageProperty_15 : Cond.fieldLink RX1 15 "HintedPages$Store" "hintOfPage" "[I" ∈ wsX1_pageProperty := by decide +kernel
set_option maxRecDepth 20000 in
theorem k_X1_pageProperty_18 : Cond.fieldLink RX1 18 "HintedPages$Store" "writesOfPage" "[I" ∈ wsX1_pageProperty := by decide +kernel
set_option maxRecDepth 20000 in
theorem k_X1_pageProperty_21 : Cond.fieldLink RX1 21 "HintedPages$Store" "copiesOfPage" "[I" ∈ wsX1_pageProperty := by decide +kernel
set_option maxRecDepth 20000 in
theorem k_X1_pageProperty_24 : Cond.fieldLink RX1 24 "HintedPages$Store" "copiesSinceWrite" "[I" ∈ wsX1_pageProperty := by decide +kernel
set_option maxRecDepth 20000 in
theorem k_X1_pageProperty_9 : Cond.fieldLink RX1 9 "HintedPages$Store" "placeOfPage" "[I" ∈ wsX1_pageProperty := by decide +kernel
abbrev rm_s_pageProperty : Room := { frames := 2, cells := 0, slots := 0, locals := 42 }
noncomputable def f_s_pageProperty (m : gM) (a1 : Int32) (a2 : Int32) : Int32 := (if a2 = (0 : Int32) then (f_s_blockOf m a1) else (if a2 = (1 : Int32) then (if (f_s_isWritten m a1) = 0 then (-1 : Int32) else ((m 1 a1.toNatClampNeg) - (m 1 a1.toNatClampNeg) / (8 : Int32) * (8 : Int32))) else (if a2 = (2 : Int32) then (if (f_s_isWritten m a1) = 0 then (-1 : Int32) else (m 2 a1.toNatClampNeg)) else (if a2 = (3 : Int32) then (m 3 a1.toNatClampNeg) else (if a2 = (4 : Int32) then (m 4 a1.toNatClampNeg) else (m 5 a1.toNatClampNeg))))))
noncomputable def o_s_pageProperty (m : gM) (a1 : Int32) (a2 : Int32) : Prop := (if a2 = (0 : Int32) then (o_s_blockOf m a1) ∧ (True) else (if a2 = (1 : Int32) then (o_s_isWritten m a1) ∧ ((if (f_s_isWritten m a1) = 0 then True else (vp_in a1 40) ∧ (True))) else (if a2 = (2 : Int32) then (o_s_isWritten m a1) ∧ ((if (f_s_isWritten m a1) = 0 then True else (vp_in a1 40) ∧ (True))) else (if a2 = (3 : Int32) then (vp_in a1 40) ∧ (True) else (if a2 = (4 : Int32) then (vp_in a1 40) ∧ (True) else (vp_in a1 40) ∧ (True))))))
set_option maxRecDepth 100000 in
set_option maxHeartbeats 4000000 in
theorem c_s_pageProperty (l : Launch) (G : gG) (q : Nat → Nat) (m : gM) (h : gN) (a1 : Int32) (a2 : Int32) (hok : o_s_pageProperty m a1 a2) : gMi l yX1_pageProperty wsX1_pageProperty rm_s_pageProperty G shS q m h [.ref (q 0), .int a1, .int a2] m h (f_s_pageProperty m a1 a2) := by
  intro sz
  refine g_met (cc := cX1_pageProperty) (maxL := 3) (ret := (some .int)) (own := RX1) (Qc := fun sz => gQi G shS q m h sz (f_s_pageProperty m a1 a2)) (by decide) rfl rfl (Nat.le_of_ble_eq_true rfl) (fun p e s m9 below meth c C hq hr => ?_)
  refine x_lv (lv' := [(0, .ref (q 0)), (1, .int a1), (2, .int a2)]) [0, 1, 2] rfl ?_
  have hf := f_s_pageProperty.eq_1 m a1 a2
  have hok := Eq.mp (o_s_pageProperty.eq_1 m a1 a2) hok
  refine x_iload_n C dX1_pageProperty_0 rfl 2 rfl ?_
  by_cases c1 : a2 = (0 : Int32)
  · have hf := hf.trans (if_pos c1)
    have hok := g_ip c1 hok
    refine x_tin (tgt := 36) C dX1_pageProperty_1 c1 (by decide) (by decide) rfl (by decide) ?_
    refine x_aload_n C dX1_pageProperty_36 rfl 0 rfl ?_
    refine x_iload_n C dX1_pageProperty_37 rfl 1 rfl ?_
    have s2 := And.left hok
    have hok := And.right hok
    refine x_callVi (n := 1) C hq gFr_same (c_s_blockOf l G q m h a1 s2) (cwV 1 C.2.2.2.2.2.1 gX1_pageProperty_X1_blockOf rfl rfl rfl (by decide +kernel) ⟨Nat.le_of_ble_eq_true rfl, Nat.le_of_ble_eq_true rfl⟩) rfl rfl rfl rfl (Nat.le_of_ble_eq_true rfl) dX1_pageProperty_38 (Nat.zero_le _) (Nat.zero_le _) ?_
    exact g_iret C hr rfl dX1_pageProperty_41 hf.symm rfl rfl
  · have hf := hf.trans (if_neg c1)
    have hok := g_in c1 hok
    by_cases c3 : a2 = (1 : Int32)
    · have hf := hf.trans (if_pos c3)
      have hok := g_ip c3 hok
      refine x_tin (tgt := 42) C dX1_pageProperty_1 c3 (by decide) (by decide) rfl (by decide) ?_
      refine x_aload_n C dX1_pageProperty_42 rfl 0 rfl ?_
      refine x_iload_n C dX1_pageProperty_43 rfl 1 rfl ?_
      have s4 := And.left hok
      have hok := And.right hok
      refine x_callVi (n := 1) C hq gFr_same (c_s_isWritten l G q m h a1 s4) (cwV 1 C.2.2.2.2.2.1 gX1_pageProperty_X1_isWritten rfl rfl rfl (by decide +kernel) ⟨Nat.le_of_ble_eq_true rfl, Nat.le_of_ble_eq_true rfl⟩) rfl rfl rfl rfl (Nat.le_of_ble_eq_true rfl) dX1_pageProperty_44 (Nat.zero_le _) (Nat.zero_le _) ?_
      refine x_if_eq (tgt := 62) C dX1_pageProperty_47 (by decide) (fun c5 => ?_) (fun c5 => ?_)
      · have hf := hf.trans (if_pos c5)
        have hok := g_ip c5 hok
        refine x_iconst (v := (-1 : Int32)) C dX1_pageProperty_62 (by decide) ?_
        exact g_iret C hr rfl dX1_pageProperty_63 hf.symm rfl rfl
      · have hf := hf.trans (if_neg c5)
        have hok := g_in c5 hok
        refine x_aload_n C dX1_pageProperty_50 rfl 0 rfl ?_
        refine x_get (v := .ref (q 1)) C in_X1_pageProperty_1 0 rfl rfl 0 (by decide) k_X1_pageProperty_9 rfl rfl dX1_pageProperty_51 ?_
        refine x_iload_n C dX1_pageProperty_54 rfl 1 rfl ?_
        have s6 := And.left hok
        have hok := And.right hok
        refine x_iald (n := 40) (v := (m 1 a1.toNatClampNeg)) C 1 rfl s6 rfl dX1_pageProperty_55 ?_
        refine x_bipush (v := (8 : Int32)) C dX1_pageProperty_56 (by decide) ?_
        refine x_irem C dX1_pageProperty_58 (by decide) ?_
        refine x_goto (tgt := 63) C dX1_pageProperty_59 (by decide) ?_
        exact g_iret C hr rfl dX1_pageProperty_63 hf.symm rfl rfl
    · have hf := hf.trans (if_neg c3)
      have hok := g_in c3 hok
      by_cases c7 : a2 = (2 : Int32)
      · have hf := hf.trans (if_pos c7)
        have hok := g_ip c7 hok
        refine x_tin (tgt := 64) C dX1_pageProperty_1 c7 (by decide) (by decide) rfl (by decide) ?_
        refine x_aload_n C dX1_pageProperty_64 rfl 0 rfl ?_
        refine x_iload_n C dX1_pageProperty_65 rfl 1 rfl ?_
        have s8 := And.left hok
        have hok := And.right hok
        refine x_callVi (n := 1) C hq gFr_same (c_s_isWritten l G q m h a1 s8) (cwV 1 C.2.2.2.2.2.1 gX1_pageProperty_X1_isWritten rfl rfl rfl (by decide +kernel) ⟨Nat.le_of_ble_eq_true rfl, Nat.le_of_ble_eq_true rfl⟩) rfl rfl rfl rfl (Nat.le_of_ble_eq_true rfl) dX1_pageProperty_66 (Nat.zero_le _) (Nat.zero_le _) ?_
        refine x_if_eq (tgt := 81) C dX1_pageProperty_69 (by decide) (fun c9 => ?_) (fun c9 => ?_)
        · have hf := hf.trans (if_pos c9)
          have hok := g_ip c9 hok
          refine x_iconst (v := (-1 : Int32)) C dX1_pageProperty_81 (by decide) ?_
          exact g_iret C hr rfl dX1_pageProperty_82 hf.symm rfl rfl
        · have hf := hf.trans (if_neg c9)
          have hok := g_in c9 hok
          refine x_aload_n C dX1_pageProperty_72 rfl 0 rfl ?_
          refine x_get (v := .ref (q 2)) C in_X1_pageProperty_1 0 rfl rfl 1 (by decide) k_X1_pageProperty_15 rfl rfl dX1_pageProperty_73 ?_
          refine x_iload_n C dX1_pageProperty_76 rfl 1 rfl ?_
          have s10 := And.left hok
          have hok := And.right hok
          refine x_iald (n := 40) (v := (m 2 a1.toNatClampNeg)) C 2 rfl s10 rfl dX1_pageProperty_77 ?_
          refine x_goto (tgt := 82) C dX1_pageProperty_78 (by decide) ?_
          exact g_iret C hr rfl dX1_pageProperty_82 hf.symm rfl rfl
      · have hf := hf.trans (if_neg c7)
        have hok := g_in c7 hok
        by_cases c11 : a2 = (3 : Int32)
        · have hf := hf.trans (if_pos c11)
          have hok := g_ip c11 hok
          refine x_tin (tgt := 83) C dX1_pageProperty_1 c11 (by decide) (by decide) rfl (by decide) ?_
          refine x_aload_n C dX1_pageProperty_83 rfl 0 rfl ?_
          refine x_get (v := .ref (q 3)) C in_X1_pageProperty_1 0 rfl rfl 2 (by decide) k_X1_pageProperty_18 rfl rfl dX1_pageProperty_84 ?_
          refine x_iload_n C dX1_pageProperty_87 rfl 1 rfl ?_
          have s12 := And.left hok
          have hok := And.right hok
          refine x_iald (n := 40) (v := (m 3 a1.toNatClampNeg)) C 3 rfl s12 rfl dX1_pageProperty_88 ?_
          exact g_iret C hr rfl dX1_pageProperty_89 hf.symm rfl rfl
        · have hf := hf.trans (if_neg c11)
          have hok := g_in c11 hok
          by_cases c13 : a2 = (4 : Int32)
          · have hf := hf.trans (if_pos c13)
            have hok := g_ip c13 hok
            refine x_tin (tgt := 90) C dX1_pageProperty_1 c13 (by decide) (by decide) rfl (by decide) ?_
            refine x_aload_n C dX1_pageProperty_90 rfl 0 rfl ?_
            refine x_get (v := .ref (q 4)) C in_X1_pageProperty_1 0 rfl rfl 3 (by decide) k_X1_pageProperty_21 rfl rfl dX1_pageProperty_91 ?_
            refine x_iload_n C dX1_pageProperty_94 rfl 1 rfl ?_
            have s14 := And.left hok
            have hok := And.right hok
            refine x_iald (n := 40) (v := (m 4 a1.toNatClampNeg)) C 4 rfl s14 rfl dX1_pageProperty_95 ?_
            exact g_iret C hr rfl dX1_pageProperty_96 hf.symm rfl rfl
          · have hf := hf.trans (if_neg c13)
            have hok := g_in c13 hok
            refine x_tout (tgt := 97) C dX1_pageProperty_1 (by have wc1 := lv_neT (a := 0) c1 rfl; have wc3 := lv_neT (a := 1) c3 rfl; have wc7 := lv_neT (a := 2) c7 rfl; have wc11 := lv_neT (a := 3) c11 rfl; have wc13 := lv_neT (a := 4) c13 rfl; omega) (by decide) ?_
            refine x_aload_n C dX1_pageProperty_97 rfl 0 rfl ?_
            refine x_get (v := .ref (q 5)) C in_X1_pageProperty_1 0 rfl rfl 4 (by decide) k_X1_pageProperty_24 rfl rfl dX1_pageProperty_98 ?_
            refine x_iload_n C dX1_pageProperty_101 rfl 1 rfl ?_
            have s15 := And.left hok
            have hok := And.right hok
            refine x_iald (n := 40) (v := (m 5 a1.toNatClampNeg)) C 5 rfl s15 rfl dX1_pageProperty_102 ?_
            exact g_iret C hr rfl dX1_pageProperty_103 hf.symm rfl rfl
set_option maxRecDepth 20000 in
theorem in_X1_blockProperty_1 : ∀ w ∈ u_ws RX1 TX1 17, w ∈ wsX1_blockProperty := by decide +kernel
set_option maxRecDepth 20000 in
theorem k_X1_blockProperty_30 : Cond.fieldLink RX1 30 "HintedPages$Store" "streamOfBlock" "[I" ∈ wsX1_blockProperty := by decide +kernel
set_option maxRecDepth 20000 in
theorem k_X1_blockProperty_33 : Cond.fieldLink RX1 33 "HintedPages$Store" "programmedOfBlock" "[I" ∈ wsX1_blockProperty := by decide +kernel
set_option maxRecDepth 20000 in
theorem k_X1_blockProperty_36 : Cond.fieldLink RX1 36 "HintedPages$Store" "validOfBlock" "[I" ∈ wsX1_blockProperty := by decide +kernel
set_option maxRecDepth 20000 in
theorem k_X1_blockProperty_39 : Cond.fieldLink RX1 39 "HintedPages$Store" "erasuresOfBlock" "[I" ∈ wsX1_blockProperty := by decide +kernel
abbrev rm_s_blockProperty : Room := { frames := 2, cells := 0, slots := 0, locals := 46 }
noncomputable def f_s_blockProperty (m : gM) (a1 : Int32) (a2 : Int32) : Int32 := (if a2 = (0 : Int32) then (f_s_stateOf m a1) else (if a2 = (1 : Int32) then (m 7 a1.toNatClampNeg) else (if a2 = (2 : Int32) then (m 9 a1.toNatClampNeg) else (if a2 = (3 : Int32) then ((m 8 a1.toNatClampNeg) - (m 9 a1.toNatClampNeg)) else (if a2 = (4 : Int32) then ((8 : Int32) - (m 8 a1.toNatClampNeg)) else (if a2 = (5 : Int32) then (m 10 a1.toNatClampNeg) else (if a2 = (6 : Int32) then (f_s_closedAheadOf m a1) else (f_s_unlikeHintsOf m a1))))))))
noncomputable def o_s_blockProperty (m : gM) (a1 : Int32) (a2 : Int32) : Prop := (if a2 = (0 : Int32) then (o_s_stateOf m a1) ∧ (True) else (if a2 = (1 : Int32) then (vp_in a1 12) ∧ (True) else (if a2 = (2 : Int32) then (vp_in a1 12) ∧ (True) else (if a2 = (3 : Int32) then (vp_in a1 12) ∧ ((vp_in a1 12) ∧ (True)) else (if a2 = (4 : Int32) then (vp_in a1 12) ∧ (True) else (if a2 = (5 : Int32) then (vp_in a1 12) ∧ (True) else (if a2 = (6 : Int32) then (o_s_closedAheadOf m a1) ∧ (True) else (o_s_unlikeHintsOf m a1) ∧ (True))))))))
set_option maxRecDepth 100000 in
set_option maxHeartbeats 4000000 in
theorem c_s_blockProperty (l : Launch) (G : gG) (q : Nat → Nat) (m : gM) (h : gN) (a1 : Int32) (a2 : Int32) (hok : o_s_blockProperty m a1 a2) : gMi l yX1_blockProperty wsX1_blockProperty rm_s_blockProperty G shS q m h [.ref (q 0), .int a1, .int a2] m h (f_s_blockProperty m a1 a2) := by
  intro sz
  refine g_met (cc := cX1_blockProperty) (maxL := 3) (ret := (some .int)) (own := RX1) (Qc := fun sz => gQi G shS q m h sz (f_s_blockProperty m a1 a2)) (by decide) rfl rfl (Nat.le_of_ble_eq_true rfl) (fun p e s m9 below meth c C hq hr => ?_)
  refine x_lv (lv' := [(0, .ref (q 0)), (1, .int a1), (2, .int a2)]) [0, 1, 2] rfl ?_
  have hf := f_s_blockProperty.eq_1 m a1 a2
  have hok := Eq.mp (o_s_blockProperty.eq_1 m a1 a2) hok
  refine x_iload_n C dX1_blockProperty_0 rfl 2 rfl ?_
  by_cases c1 : a2 = (0 : Int32)
  · have hf := hf.trans (if_pos c1)
    have hok := g_ip c1 hok
    refine x_tin (tgt := 44) C dX1_blockProperty_1 c1 (by decide) (by decide) rfl (by decide) ?_
    refine x_aload_n C dX1_blockProperty_44 rfl 0 rfl ?_
    refine x_iload_n C dX1_blockProperty_45 rfl 1 rfl ?_
    have s2 := And.left hok
    have hok := And.right hok
    refine x_callVi (n := 1) C hq gFr_same (c_s_stateOf l G q m h a1 s2) (cwV 1 C.2.2.2.2.2.1 gX1_blockProperty_X1_stateOf rfl rfl rfl (by decide +kernel) ⟨Nat.le_of_ble_eq_true rfl, Nat.le_of_ble_eq_true rfl⟩) rfl rfl rfl rfl (Nat.le_of_ble_eq_true rfl) dX1_blockProperty_46 (Nat.zero_le _) (Nat.zero_le _) ?_
    exact g_iret C hr rfl dX1_blockProperty_49 hf.symm rfl rfl
  · have hf := hf.trans (if_neg c1)
    have hok := g_in c1 hok
    by_cases c3 : a2 = (1 : Int32)
    · have hf := hf.trans (if_pos c3)
      have hok := g_ip c3 hok
      refine x_tin (tgt := 50) C dX1_blockProperty_1 c3 (by decide) (by decide) rfl (by decide) ?_
      refine x_aload_n C dX1_blockProperty_50 rfl 0 rfl ?_
      refine x_get (v := .ref (q 7)) C in_X1_blockProperty_1 0 rfl rfl 6 (by decide) k_X1_blockProperty_30 rfl rfl dX1_blockProperty_51 ?_
      refine x_iload_n C dX1_blockProperty_54 rfl 1 rfl ?_
      have s4 := And.left hok
      have hok := And.right hok
      refine x_iald (n := 12) (v := (m 7 a1.toNatClampNeg)) C 7 rfl s4 rfl dX1_blockProperty_55 ?_
      exact g_iret C hr rfl dX1_blockProperty_56 hf.symm rfl rfl
    · have hf := hf.trans (if_neg c3)
      have hok := g_in c3 hok
      by_cases c5 : a2 = (2 : Int32)
      · have hf := hf.trans (if_pos c5)
        have hok := g_ip c5 hok
        refine x_tin (tgt := 57) C dX1_blockProperty_1 c5 (by decide) (by decide) rfl (by decide) ?_
        refine x_aload_n C dX1_blockProperty_57 rfl 0 rfl ?_
        refine x_get (v := .ref (q 9)) C in_X1_blockProperty_1 0 rfl rfl 8 (by decide) k_X1_blockProperty_36 rfl rfl dX1_blockProperty_58 ?_
        refine x_iload_n C dX1_blockProperty_61 rfl 1 rfl ?_
        have s6 := And.left hok
        have hok := And.right hok
        refine x_iald (n := 12) (v := (m 9 a1.toNatClampNeg)) C 9 rfl s6 rfl dX1_blockProperty_62 ?_
        exact g_iret C hr rfl dX1_blockProperty_63 hf.symm rfl rfl
      · have hf := hf.trans (if_neg c5)
        have hok := g_in c5 hok
        by_cases c7 : a2 = (3 : Int32)
        · have hf := hf.trans (if_pos c7)
          have hok := g_ip c7 hok
          refine x_tin (tgt := 64) C dX1_blockProperty_1 c7 (by decide) (by decide) rfl (by decide) ?_
          refine x_aload_n C dX1_blockProperty_64 rfl 0 rfl ?_
          refine x_get (v := .ref (q 8)) C in_X1_blockProperty_1 0 rfl rfl 7 (by decide) k_X1_blockProperty_33 rfl rfl dX1_blockProperty_65 ?_
          refine x_iload_n C dX1_blockProperty_68 rfl 1 rfl ?_
          have s8 := And.left hok
          have hok := And.right hok
          refine x_iald (n := 12) (v := (m 8 a1.toNatClampNeg)) C 8 rfl s8 rfl dX1_blockProperty_69 ?_
          refine x_aload_n C dX1_blockProperty_70 rfl 0 rfl ?_
          refine x_get (v := .ref (q 9)) C in_X1_blockProperty_1 0 rfl rfl 8 (by decide) k_X1_blockProperty_36 rfl rfl dX1_blockProperty_71 ?_
          refine x_iload_n C dX1_blockProperty_74 rfl 1 rfl ?_
          have s9 := And.left hok
          have hok := And.right hok
          refine x_iald (n := 12) (v := (m 9 a1.toNatClampNeg)) C 9 rfl s9 rfl dX1_blockProperty_75 ?_
          refine x_isub C dX1_blockProperty_76 ?_
          exact g_iret C hr rfl dX1_blockProperty_77 hf.symm rfl rfl
        · have hf := hf.trans (if_neg c7)
          have hok := g_in c7 hok
          by_cases c10 : a2 = (4 : Int32)
          · have hf := hf.trans (if_pos c10)
            have hok := g_ip c10 hok
            refine x_tin (tgt := 78) C dX1_blockProperty_1 c10 (by decide) (by decide) rfl (by decide) ?_
            refine x_bipush (v := (8 : Int32)) C dX1_blockProperty_78 (by decide) ?_
            refine x_aload_n C dX1_blockProperty_80 rfl 0 rfl ?_
            refine x_get (v := .ref (q 8)) C in_X1_blockProperty_1 0 rfl rfl 7 (by decide) k_X1_blockProperty_33 rfl rfl dX1_blockProperty_81 ?_
            refine x_iload_n C dX1_blockProperty_84 rfl 1 rfl ?_
            have s11 := And.left hok
            have hok := And.right hok
            refine x_iald (n := 12) (v := (m 8 a1.toNatClampNeg)) C 8 rfl s11 rfl dX1_blockProperty_85 ?_
            refine x_isub C dX1_blockProperty_86 ?_
            exact g_iret C hr rfl dX1_blockProperty_87 hf.symm rfl rfl
          · have hf := hf.trans (if_neg c10)
            have hok := g_in c10 hok
            by_cases c12 : a2 = (5 : Int32)
            · have hf := hf.trans (if_pos c12)
              have hok := g_ip c12 hok
              refine x_tin (tgt := 88) C dX1_blockProperty_1 c12 (by decide) (by decide) rfl (by decide) ?_
              refine x_aload_n C dX1_blockProperty_88 rfl 0 rfl ?_
              refine x_get (v := .ref (q 10)) C in_X1_blockProperty_1 0 rfl rfl 9 (by decide) k_X1_blockProperty_39 rfl rfl dX1_blockProperty_89 ?_
              refine x_iload_n C dX1_blockProperty_92 rfl 1 rfl ?_
              have s13 := And.left hok
              have hok := And.right hok
              refine x_iald (n := 12) (v := (m 10 a1.toNatClampNeg)) C 10 rfl s13 rfl dX1_blockProperty_93 ?_
              exact g_iret C hr rfl dX1_blockProperty_94 hf.symm rfl rfl
            · have hf := hf.trans (if_neg c12)
              have hok := g_in c12 hok
              by_cases c14 : a2 = (6 : Int32)
              · have hf := hf.trans (if_pos c14)
                have hok := g_ip c14 hok
                refine x_tin (tgt := 95) C dX1_blockProperty_1 c14 (by decide) (by decide) rfl (by decide) ?_
                refine x_aload_n C dX1_blockProperty_95 rfl 0 rfl ?_
                refine x_iload_n C dX1_blockProperty_96 rfl 1 rfl ?_
                have s15 := And.left hok
                have hok := And.right hok
                refine x_callVi (n := 1) C hq gFr_same (c_s_closedAheadOf l G q m h a1 s15) (cwV 1 C.2.2.2.2.2.1 gX1_blockProperty_X1_closedAheadOf rfl rfl rfl (by decide +kernel) ⟨Nat.le_of_ble_eq_true rfl, Nat.le_of_ble_eq_true rfl⟩) rfl rfl rfl rfl (Nat.le_of_ble_eq_true rfl) dX1_blockProperty_97 (Nat.zero_le _) (Nat.zero_le _) ?_
                exact g_iret C hr rfl dX1_blockProperty_100 hf.symm rfl rfl
              · have hf := hf.trans (if_neg c14)
                have hok := g_in c14 hok
                refine x_tout (tgt := 101) C dX1_blockProperty_1 (by have wc1 := lv_neT (a := 0) c1 rfl; have wc3 := lv_neT (a := 1) c3 rfl; have wc5 := lv_neT (a := 2) c5 rfl; have wc7 := lv_neT (a := 3) c7 rfl; have wc10 := lv_neT (a := 4) c10 rfl; have wc12 := lv_neT (a := 5) c12 rfl; have wc14 := lv_neT (a := 6) c14 rfl; omega) (by decide) ?_
                refine x_aload_n C dX1_blockProperty_101 rfl 0 rfl ?_
                refine x_iload_n C dX1_blockProperty_102 rfl 1 rfl ?_
                have s16 := And.left hok
                have hok := And.right hok
                refine x_callVi (n := 1) C hq gFr_same (c_s_unlikeHintsOf l G q m h a1 s16) (cwV 1 C.2.2.2.2.2.1 gX1_blockProperty_X1_unlikeHintsOf rfl rfl rfl (by decide +kernel) ⟨Nat.le_of_ble_eq_true rfl, Nat.le_of_ble_eq_true rfl⟩) rfl rfl rfl rfl (Nat.le_of_ble_eq_true rfl) dX1_blockProperty_103 (Nat.zero_le _) (Nat.zero_le _) ?_
                exact g_iret C hr rfl dX1_blockProperty_106 hf.symm rfl rfl
set_option maxRecDepth 20000 in
theorem in_X1_streamProperty_1 : ∀ w ∈ u_ws RX1 TX1 17, w ∈ wsX1_streamProperty := by decide +kernel
set_option maxRecDepth 20000 in
theorem k_X1_streamProperty_45 : Cond.fieldLink RX1 45 "HintedPages$Store" "openOfStream" "[I" ∈ wsX1_streamProperty := by decide +kernel
set_option maxRecDepth 20000 in
theorem k_X1_streamProperty_48 : Cond.fieldLink RX1 48 "HintedPages$Store" "programmedOfStream" "[I" ∈ wsX1_streamProperty := by decide +kernel
set_option maxRecDepth 20000 in
theorem k_X1_streamProperty_51 : Cond.fieldLink RX1 51 "HintedPages$Store" "copiesOfStream" "[I" ∈ wsX1_streamProperty := by decide +kernel
abbrev rm_s_streamProperty : Room := { frames := 2, cells := 0, slots := 0, locals := 44 }
noncomputable def f_s_streamProperty (m : gM) (a1 : Int32) (a2 : Int32) : Int32 := (if a2 = (0 : Int32) then (m 12 a1.toNatClampNeg) else (if a2 = (1 : Int32) then (m 13 a1.toNatClampNeg) else (if a2 = (2 : Int32) then (f_s_pagesWithHint m a1) else (if a2 = (3 : Int32) then (m 14 a1.toNatClampNeg) else (f_s_percentOf m a1)))))
noncomputable def o_s_streamProperty (m : gM) (a1 : Int32) (a2 : Int32) : Prop := (if a2 = (0 : Int32) then (vp_in a1 5) ∧ (True) else (if a2 = (1 : Int32) then (vp_in a1 5) ∧ (True) else (if a2 = (2 : Int32) then (o_s_pagesWithHint m a1) ∧ (True) else (if a2 = (3 : Int32) then (vp_in a1 5) ∧ (True) else (o_s_percentOf m a1) ∧ (True)))))
set_option maxRecDepth 100000 in
set_option maxHeartbeats 4000000 in
theorem c_s_streamProperty (l : Launch) (G : gG) (q : Nat → Nat) (m : gM) (h : gN) (a1 : Int32) (a2 : Int32) (hok : o_s_streamProperty m a1 a2) : gMi l yX1_streamProperty wsX1_streamProperty rm_s_streamProperty G shS q m h [.ref (q 0), .int a1, .int a2] m h (f_s_streamProperty m a1 a2) := by
  intro sz
  refine g_met (cc := cX1_streamProperty) (maxL := 3) (ret := (some .int)) (own := RX1) (Qc := fun sz => gQi G shS q m h sz (f_s_streamProperty m a1 a2)) (by decide) rfl rfl (Nat.le_of_ble_eq_true rfl) (fun p e s m9 below meth c C hq hr => ?_)
  refine x_lv (lv' := [(0, .ref (q 0)), (1, .int a1), (2, .int a2)]) [0, 1, 2] rfl ?_
  have hf := f_s_streamProperty.eq_1 m a1 a2
  have hok := Eq.mp (o_s_streamProperty.eq_1 m a1 a2) hok
  refine x_iload_n C dX1_streamProperty_0 rfl 2 rfl ?_
  by_cases c1 : a2 = (0 : Int32)
  · have hf := hf.trans (if_pos c1)
    have hok := g_ip c1 hok
    refine x_tin (tgt := 32) C dX1_streamProperty_1 c1 (by decide) (by decide) rfl (by decide) ?_
    refine x_aload_n C dX1_streamProperty_32 rfl 0 rfl ?_
    refine x_get (v := .ref (q 12)) C in_X1_streamProperty_1 0 rfl rfl 11 (by decide) k_X1_streamProperty_45 rfl rfl dX1_streamProperty_33 ?_
    refine x_iload_n C dX1_streamProperty_36 rfl 1 rfl ?_
    have s2 := And.left hok
    have hok := And.right hok
    refine x_iald (n := 5) (v := (m 12 a1.toNatClampNeg)) C 12 rfl s2 rfl dX1_streamProperty_37 ?_
    exact g_iret C hr rfl dX1_streamProperty_38 hf.symm rfl rfl
  · have hf := hf.trans (if_neg c1)
    have hok := g_in c1 hok
    by_cases c3 : a2 = (1 : Int32)
    · have hf := hf.trans (if_pos c3)
      have hok := g_ip c3 hok
      refine x_tin (tgt := 39) C dX1_streamProperty_1 c3 (by decide) (by decide) rfl (by decide) ?_
      refine x_aload_n C dX1_streamProperty_39 rfl 0 rfl ?_
      refine x_get (v := .ref (q 13)) C in_X1_streamProperty_1 0 rfl rfl 12 (by decide) k_X1_streamProperty_48 rfl rfl dX1_streamProperty_40 ?_
      refine x_iload_n C dX1_streamProperty_43 rfl 1 rfl ?_
      have s4 := And.left hok
      have hok := And.right hok
      refine x_iald (n := 5) (v := (m 13 a1.toNatClampNeg)) C 13 rfl s4 rfl dX1_streamProperty_44 ?_
      exact g_iret C hr rfl dX1_streamProperty_45 hf.symm rfl rfl
    · have hf := hf.trans (if_neg c3)
      have hok := g_in c3 hok
      by_cases c5 : a2 = (2 : Int32)
      · have hf := hf.trans (if_pos c5)
        have hok := g_ip c5 hok
        refine x_tin (tgt := 46) C dX1_streamProperty_1 c5 (by decide) (by decide) rfl (by decide) ?_
        refine x_aload_n C dX1_streamProperty_46 rfl 0 rfl ?_
        refine x_iload_n C dX1_streamProperty_47 rfl 1 rfl ?_
        have s6 := And.left hok
        have hok := And.right hok
        refine x_callVi (n := 1) C hq gFr_same (c_s_pagesWithHint l G q m h a1 s6) (cwV 1 C.2.2.2.2.2.1 gX1_streamProperty_X1_pagesWithHint rfl rfl rfl (by decide +kernel) ⟨Nat.le_of_ble_eq_true rfl, Nat.le_of_ble_eq_true rfl⟩) rfl rfl rfl rfl (Nat.le_of_ble_eq_true rfl) dX1_streamProperty_48 (Nat.zero_le _) (Nat.zero_le _) ?_
        exact g_iret C hr rfl dX1_streamProperty_51 hf.symm rfl rfl
      · have hf := hf.trans (if_neg c5)
        have hok := g_in c5 hok
        by_cases c7 : a2 = (3 : Int32)
        · have hf := hf.trans (if_pos c7)
          have hok := g_ip c7 hok
          refine x_tin (tgt := 52) C dX1_streamProperty_1 c7 (by decide) (by decide) rfl (by decide) ?_
          refine x_aload_n C dX1_streamProperty_52 rfl 0 rfl ?_
          refine x_get (v := .ref (q 14)) C in_X1_streamProperty_1 0 rfl rfl 13 (by decide) k_X1_streamProperty_51 rfl rfl dX1_streamProperty_53 ?_
          refine x_iload_n C dX1_streamProperty_56 rfl 1 rfl ?_
          have s8 := And.left hok
          have hok := And.right hok
          refine x_iald (n := 5) (v := (m 14 a1.toNatClampNeg)) C 14 rfl s8 rfl dX1_streamProperty_57 ?_
          exact g_iret C hr rfl dX1_streamProperty_58 hf.symm rfl rfl
        · have hf := hf.trans (if_neg c7)
          have hok := g_in c7 hok
          refine x_tout (tgt := 59) C dX1_streamProperty_1 (by have wc1 := lv_neT (a := 0) c1 rfl; have wc3 := lv_neT (a := 1) c3 rfl; have wc5 := lv_neT (a := 2) c5 rfl; have wc7 := lv_neT (a := 3) c7 rfl; omega) (by decide) ?_
          refine x_aload_n C dX1_streamProperty_59 rfl 0 rfl ?_
          refine x_iload_n C dX1_streamProperty_60 rfl 1 rfl ?_
          have s9 := And.left hok
          have hok := And.right hok
          refine x_callVi (n := 1) C hq gFr_same (c_s_percentOf l G q m h a1 s9) (cwV 1 C.2.2.2.2.2.1 gX1_streamProperty_X1_percentOf rfl rfl rfl (by decide +kernel) ⟨Nat.le_of_ble_eq_true rfl, Nat.le_of_ble_eq_true rfl⟩) rfl rfl rfl rfl (Nat.le_of_ble_eq_true rfl) dX1_streamProperty_61 (Nat.zero_le _) (Nat.zero_le _) ?_
          exact g_iret C hr rfl dX1_streamProperty_64 hf.symm rfl rfl
set_option maxRecDepth 20000 in
theorem gs_S_a40_3 : gSub shS sha40 [3] := ⟨by decide, rfl⟩
set_option maxRecDepth 20000 in
theorem in_X1_writes_1 : ∀ w ∈ u_ws RX1 TX1 17, w ∈ wsX1_writes := by decide +kernel
set_option maxRecDepth 20000 in
theorem k_X1_writes_18 : Cond.fieldLink RX1 18 "HintedPages$Store" "writesOfPage" "[I" ∈ wsX1_writes := by decide +kernel
abbrev rm_s_writes : Room := { frames := 1, cells := 0, slots := 0, locals := 25 }
noncomputable def f_s_writes (m : gM) : Int32 := (f_s_sum40 (g_sel [3] m))
noncomputable def o_s_writes (m : gM) : Prop := (o_s_sum40 (g_sel [3] m)) ∧ (True)
set_option maxRecDepth 100000 in
set_option maxHeartbeats 4000000 in
theorem c_s_writes (l : Launch) (G : gG) (q : Nat → Nat) (m : gM) (h : gN) (hok : o_s_writes m) : gMi l yX1_writes wsX1_writes rm_s_writes G shS q m h [.ref (q 0)] m h (f_s_writes m) := by
  intro sz
  refine g_met (cc := cX1_writes) (maxL := 1) (ret := (some .int)) (own := RX1) (Qc := fun sz => gQi G shS q m h sz (f_s_writes m)) (by decide) rfl rfl (Nat.le_of_ble_eq_true rfl) (fun p e s m9 below meth c C hq hr => ?_)
  refine x_lv (lv' := [(0, .ref (q 0))]) [0] rfl ?_
  have hf := f_s_writes.eq_1 m
  have hok := Eq.mp (o_s_writes.eq_1 m) hok
  refine x_aload_n C dX1_writes_0 rfl 0 rfl ?_
  refine x_get (v := .ref (q 3)) C in_X1_writes_1 0 rfl rfl 2 (by decide) k_X1_writes_18 rfl rfl dX1_writes_1 ?_
  have s1 := And.left hok
  have hok := And.right hok
  refine x_callSi (n := 1) C hq (gFr_pure gs_S_a40_3) (c_s_sum40 l G (g_sel [3] q) (g_sel [3] m) (g_sel [3] h) s1) (va_cwS 1 C.2.2.2.2.2.1 gX1_writes_X1_sum rfl rfl rfl (by decide +kernel) ⟨Nat.le_of_ble_eq_true rfl, Nat.le_of_ble_eq_true rfl⟩) rfl rfl (Nat.le_of_ble_eq_true rfl) dX1_writes_4 (Nat.zero_le _) (Nat.zero_le _) ?_
  exact g_iret C hr rfl dX1_writes_7 hf.symm rfl rfl
set_option maxRecDepth 20000 in
theorem gs_S_a12_10 : gSub shS sha12 [10] := ⟨by decide, rfl⟩
set_option maxRecDepth 20000 in
theorem in_X1_erasures_1 : ∀ w ∈ u_ws RX1 TX1 17, w ∈ wsX1_erasures := by decide +kernel
set_option maxRecDepth 20000 in
theorem k_X1_erasures_39 : Cond.fieldLink RX1 39 "HintedPages$Store" "erasuresOfBlock" "[I" ∈ wsX1_erasures := by decide +kernel
abbrev rm_s_erasures : Room := { frames := 1, cells := 0, slots := 0, locals := 25 }
noncomputable def f_s_erasures (m : gM) : Int32 := (f_s_sum12 (g_sel [10] m))
noncomputable def o_s_erasures (m : gM) : Prop := (o_s_sum12 (g_sel [10] m)) ∧ (True)
set_option maxRecDepth 100000 in
set_option maxHeartbeats 4000000 in
theorem c_s_erasures (l : Launch) (G : gG) (q : Nat → Nat) (m : gM) (h : gN) (hok : o_s_erasures m) : gMi l yX1_erasures wsX1_erasures rm_s_erasures G shS q m h [.ref (q 0)] m h (f_s_erasures m) := by
  intro sz
  refine g_met (cc := cX1_erasures) (maxL := 1) (ret := (some .int)) (own := RX1) (Qc := fun sz => gQi G shS q m h sz (f_s_erasures m)) (by decide) rfl rfl (Nat.le_of_ble_eq_true rfl) (fun p e s m9 below meth c C hq hr => ?_)
  refine x_lv (lv' := [(0, .ref (q 0))]) [0] rfl ?_
  have hf := f_s_erasures.eq_1 m
  have hok := Eq.mp (o_s_erasures.eq_1 m) hok
  refine x_aload_n C dX1_erasures_0 rfl 0 rfl ?_
  refine x_get (v := .ref (q 10)) C in_X1_erasures_1 0 rfl rfl 9 (by decide) k_X1_erasures_39 rfl rfl dX1_erasures_1 ?_
  have s1 := And.left hok
  have hok := And.right hok
  refine x_callSi (n := 1) C hq (gFr_pure gs_S_a12_10) (c_s_sum12 l G (g_sel [10] q) (g_sel [10] m) (g_sel [10] h) s1) (va_cwS 1 C.2.2.2.2.2.1 gX1_erasures_X1_sum rfl rfl rfl (by decide +kernel) ⟨Nat.le_of_ble_eq_true rfl, Nat.le_of_ble_eq_true rfl⟩) rfl rfl (Nat.le_of_ble_eq_true rfl) dX1_erasures_4 (Nat.zero_le _) (Nat.zero_le _) ?_
  exact g_iret C hr rfl dX1_erasures_7 hf.symm rfl rfl
set_option maxRecDepth 20000 in
theorem in_X1_openBlocks_1 : ∀ w ∈ u_ws RX1 TX1 17, w ∈ wsX1_openBlocks := by decide +kernel
set_option maxRecDepth 20000 in
theorem k_X1_openBlocks_45 : Cond.fieldLink RX1 45 "HintedPages$Store" "openOfStream" "[I" ∈ wsX1_openBlocks := by decide +kernel
abbrev rm_s_openBlocks : Room := { frames := 0, cells := 0, slots := 0, locals := 0 }
noncomputable def L_s_openBlocks_4 (m : gM) (z : Int32 × Int32) : Bool × (Int32 × Int32) := (if (5 : Int32) ≤ z.2 then (false, (z.1, z.2)) else (if (m 12 z.2.toNatClampNeg) = (-1 : Int32) then g_let ((z.2 + (1 : Int32))) (fun z4 : Int32 => (true, (z.1, z4))) else g_let ((z.1 + (1 : Int32))) (fun z5 : Int32 => g_let ((z.2 + (1 : Int32))) (fun z6 : Int32 => (true, (z5, z6))))))
noncomputable def K_s_openBlocks_4 (m : gM) (z : Int32 × Int32) : Prop := (if (5 : Int32) ≤ z.2 then True else (vp_in z.2 5) ∧ ((if (m 12 z.2.toNatClampNeg) = (-1 : Int32) then g_let ((z.2 + (1 : Int32))) (fun z4 : Int32 => True) else g_let ((z.1 + (1 : Int32))) (fun z5 : Int32 => g_let ((z.2 + (1 : Int32))) (fun z6 : Int32 => True)))))
set_option maxRecDepth 100000 in
set_option maxHeartbeats 4000000 in
theorem lp_s_openBlocks_4 {p : Program} {l : Launch} {e : Env} {s : State} {m9 : MethodId} {args : Array Value} {below : List Frame} {meth : Method} {c : Code} {G : gG} {A : Nat → Prop} {Q : State → Prop} {q : Nat → Nat} (C : xC p s m9 args meth c G A 3 cX1_openBlocks RX1 wsX1_openBlocks) (hq : gD A q shS.length) (m : gM) (h : gN) : ∀ (n : Nat) (z : Int32 × Int32), rOk (L_s_openBlocks_4 m) (K_s_openBlocks_4 m) n z → (∀ z' : Int32 × Int32, run (L_s_openBlocks_4 m) n z = z' → xJ p l e rm_s_openBlocks s m9 args below meth c G A 3 Q 0 0 shS q m h [(0, .ref (q 0)), (1, .int z'.1), (2, .int z'.2)] [] 28) → xJ p l e rm_s_openBlocks s m9 args below meth c G A 3 Q 0 0 shS q m h [(0, .ref (q 0)), (1, .int z.1), (2, .int z.2)] [] 4 := by
  intro n
  induction n with
  | zero =>
    intro z hok _
    exact rOk_0 hok
  | succ n ih =>
    intro z hok K0
    have hnx := rOk_2 hok
    have hok := rOk_1 hok
    have hf := L_s_openBlocks_4.eq_1 m z
    have hok := Eq.mp (K_s_openBlocks_4.eq_1 m z) hok
    refine x_iload_n C dX1_openBlocks_4 rfl 2 rfl ?_
    refine x_iconst (v := (5 : Int32)) C dX1_openBlocks_5 (by decide) ?_
    refine x_icmp_ge (tgt := 28) C dX1_openBlocks_6 (by decide) (fun c1 => ?_) (fun c1 => ?_)
    · have hf := hf.trans (if_pos c1)
      have hok := g_ip c1 hok
      exact K0 ((z.1, z.2)) (run_f hf)
    · have hf := hf.trans (if_neg c1)
      have hok := g_in c1 hok
      refine x_aload_n C dX1_openBlocks_9 rfl 0 rfl ?_
      refine x_get (v := .ref (q 12)) C in_X1_openBlocks_1 0 rfl rfl 11 (by decide) k_X1_openBlocks_45 rfl rfl dX1_openBlocks_10 ?_
      refine x_iload_n C dX1_openBlocks_13 rfl 2 rfl ?_
      have s2 := And.left hok
      have hok := And.right hok
      refine x_iald (n := 5) (v := (m 12 z.2.toNatClampNeg)) C 12 rfl s2 rfl dX1_openBlocks_14 ?_
      refine x_iconst (v := (-1 : Int32)) C dX1_openBlocks_15 (by decide) ?_
      refine x_icmp_eq (tgt := 22) C dX1_openBlocks_16 (by decide) (fun c3 => ?_) (fun c3 => ?_)
      · have hf := hf.trans (if_pos c3)
        have hok := g_ip c3 hok
        obtain ⟨z4, hz4⟩ : ∃ y9 : Int32, y9 = (z.2 + (1 : Int32)) := ⟨_, rfl⟩
        have hf := hf.trans (g_let_eq hz4)
        have hok := g_let_p hz4 hok
        refine x_iinc (v := z4) (lv' := [(0, .ref (q 0)), (1, .int z.1), (2, .int z4)]) C dX1_openBlocks_22 2 rfl hz4.symm (by decide) [1, 2, 0] rfl ?_
        refine x_goto (tgt := 4) C dX1_openBlocks_25 (by decide) ?_
        exact ih ((z.1, z4)) (rOk_t hnx hf) (fun z' hz => K0 z' ((run_t hf).trans hz))
      · have hf := hf.trans (if_neg c3)
        have hok := g_in c3 hok
        obtain ⟨z5, hz5⟩ : ∃ y9 : Int32, y9 = (z.1 + (1 : Int32)) := ⟨_, rfl⟩
        have hf := hf.trans (g_let_eq hz5)
        have hok := g_let_p hz5 hok
        refine x_iinc (v := z5) (lv' := [(0, .ref (q 0)), (1, .int z5), (2, .int z.2)]) C dX1_openBlocks_19 1 rfl hz5.symm (by decide) [1, 0, 2] rfl ?_
        obtain ⟨z6, hz6⟩ : ∃ y9 : Int32, y9 = (z.2 + (1 : Int32)) := ⟨_, rfl⟩
        have hf := hf.trans (g_let_eq hz6)
        have hok := g_let_p hz6 hok
        refine x_iinc (v := z6) (lv' := [(0, .ref (q 0)), (1, .int z5), (2, .int z6)]) C dX1_openBlocks_22 2 rfl hz6.symm (by decide) [1, 2, 0] rfl ?_
        refine x_goto (tgt := 4) C dX1_openBlocks_25 (by decide) ?_
        exact ih ((z5, z6)) (rOk_t hnx hf) (fun z' hz => K0 z' ((run_t hf).trans hz))
noncomputable def f_s_openBlocks (m : gM) : Int32 := g_let (run (L_s_openBlocks_4 m) 400 (((0 : Int32), (0 : Int32)))) (fun z2 : Int32 × Int32 => z2.1)
noncomputable def o_s_openBlocks (m : gM) : Prop := (rOk (L_s_openBlocks_4 m) (K_s_openBlocks_4 m) 400 (((0 : Int32), (0 : Int32)))) ∧ (g_let (run (L_s_openBlocks_4 m) 400 (((0 : Int32), (0 : Int32)))) (fun z2 : Int32 × Int32 => True))
set_option maxRecDepth 100000 in
set_option maxHeartbeats 4000000 in
theorem c_s_openBlocks (l : Launch) (G : gG) (q : Nat → Nat) (m : gM) (h : gN) (hok : o_s_openBlocks m) : gMi l yX1_openBlocks wsX1_openBlocks rm_s_openBlocks G shS q m h [.ref (q 0)] m h (f_s_openBlocks m) := by
  intro sz
  refine g_met (cc := cX1_openBlocks) (maxL := 3) (ret := (some .int)) (own := RX1) (Qc := fun sz => gQi G shS q m h sz (f_s_openBlocks m)) (by decide) rfl rfl (Nat.le_of_ble_eq_true rfl) (fun p e s m9 below meth c C hq hr => ?_)
  refine x_lv (lv' := [(0, .ref (q 0))]) [0] rfl ?_
  have hf := f_s_openBlocks.eq_1 m
  have hok := Eq.mp (o_s_openBlocks.eq_1 m) hok
  refine x_iconst (v := (0 : Int32)) C dX1_openBlocks_0 (by decide) ?_
  refine x_istore_n (lv' := [(0, .ref (q 0)), (1, .int (0 : Int32))]) C dX1_openBlocks_1 rfl (by decide) [1, 0] rfl ?_
  refine x_iconst (v := (0 : Int32)) C dX1_openBlocks_2 (by decide) ?_
  refine x_istore_n (lv' := [(0, .ref (q 0)), (1, .int (0 : Int32)), (2, .int (0 : Int32))]) C dX1_openBlocks_3 rfl (by decide) [1, 2, 0] rfl ?_
  have s1 := And.left hok
  have hok := And.right hok
  refine lp_s_openBlocks_4 C hq m h 400 (((0 : Int32), (0 : Int32))) s1 (fun z2 hz2 => ?_)
  have hf := hf.trans (g_let_eq hz2.symm)
  have hok := g_let_p hz2.symm hok
  refine x_iload_n C dX1_openBlocks_28 rfl 1 rfl ?_
  exact g_iret C hr rfl dX1_openBlocks_29 hf.symm rfl rfl
set_option maxRecDepth 20000 in
theorem in_X1_spreadOfErasures_1 : ∀ w ∈ u_ws RX1 TX1 17, w ∈ wsX1_spreadOfErasures := by decide +kernel
set_option maxRecDepth 20000 in
theorem k_X1_spreadOfErasures_max1 : Cond.methodLink RX1 165 Lib.Math.max.name ∈ wsX1_spreadOfErasures := by decide +kernel
set_option maxRecDepth 20000 in
theorem k_X1_spreadOfErasures_max2 : Cond.static Lib.Math.max.name ∈ wsX1_spreadOfErasures := by decide +kernel
set_option maxRecDepth 20000 in
theorem k_X1_spreadOfErasures_max3 : Cond.initialized "java/lang/Math" ∈ wsX1_spreadOfErasures := by decide +kernel
set_option maxRecDepth 20000 in
theorem k_X1_spreadOfErasures_max4 : Cond.code Lib.Math.max.name Lib.Math.max.code 2 (some .int) ∈ wsX1_spreadOfErasures := by decide +kernel
set_option maxRecDepth 20000 in
theorem k_X1_spreadOfErasures_min1 : Cond.methodLink RX1 74 Lib.Math.min.name ∈ wsX1_spreadOfErasures := by decide +kernel
set_option maxRecDepth 20000 in
theorem k_X1_spreadOfErasures_min2 : Cond.static Lib.Math.min.name ∈ wsX1_spreadOfErasures := by decide +kernel
set_option maxRecDepth 20000 in
theorem k_X1_spreadOfErasures_min3 : Cond.initialized "java/lang/Math" ∈ wsX1_spreadOfErasures := by decide +kernel
set_option maxRecDepth 20000 in
theorem k_X1_spreadOfErasures_min4 : Cond.code Lib.Math.min.name Lib.Math.min.code 2 (some .int) ∈ wsX1_spreadOfErasures := by decide +kernel
set_option maxRecDepth 20000 in
theorem k_X1_spreadOfErasures_39 : Cond.fieldLink RX1 39 "HintedPages$Store" "erasuresOfBlock" "[I" ∈ wsX1_spreadOfErasures := by decide +kernel
abbrev rm_s_spreadOfErasures : Room := { frames := 1, cells := 0, slots := 0, locals := 21 }
noncomputable def L_s_spreadOfErasures_16 (m : gM) (z : Int32 × Int32 × Int32) : Bool × (Int32 × Int32 × Int32) := (if (12 : Int32) ≤ z.2.2 then (false, (z.1, z.2.1, z.2.2)) else g_let ((if z.1 < (m 10 z.2.2.toNatClampNeg) then (m 10 z.2.2.toNatClampNeg) else z.1)) (fun z3 : Int32 => g_let ((if (m 10 z.2.2.toNatClampNeg) < z.2.1 then (m 10 z.2.2.toNatClampNeg) else z.2.1)) (fun z5 : Int32 => g_let ((z.2.2 + (1 : Int32))) (fun z6 : Int32 => (true, (z3, z5, z6))))))
noncomputable def K_s_spreadOfErasures_16 (m : gM) (z : Int32 × Int32 × Int32) : Prop := (if (12 : Int32) ≤ z.2.2 then True else (vp_in z.2.2 12) ∧ (g_let ((if z.1 < (m 10 z.2.2.toNatClampNeg) then (m 10 z.2.2.toNatClampNeg) else z.1)) (fun z3 : Int32 => (vp_in z.2.2 12) ∧ (g_let ((if (m 10 z.2.2.toNatClampNeg) < z.2.1 then (m 10 z.2.2.toNatClampNeg) else z.2.1)) (fun z5 : Int32 => g_let ((z.2.2 + (1 : Int32))) (fun z6 : Int32 => True))))))
set_option maxRecDepth 100000 in
set_option maxHeartbeats 4000000 in
theorem lp_s_spreadOfErasures_16 {p : Program} {l : Launch} {e : Env} {s : State} {m9 : MethodId} {args : Array Value} {below : List Frame} {meth : Method} {c : Code} {G : gG} {A : Nat → Prop} {Q : State → Prop} {q : Nat → Nat} (C : xC p s m9 args meth c G A 4 cX1_spreadOfErasures RX1 wsX1_spreadOfErasures) (hq : gD A q shS.length) (m : gM) (h : gN) : ∀ (n : Nat) (z : Int32 × Int32 × Int32), rOk (L_s_spreadOfErasures_16 m) (K_s_spreadOfErasures_16 m) n z → (∀ z' : Int32 × Int32 × Int32, run (L_s_spreadOfErasures_16 m) n z = z' → xJ p l e rm_s_spreadOfErasures s m9 args below meth c G A 4 Q 0 0 shS q m h [(0, .ref (q 0)), (1, .int z'.1), (2, .int z'.2.1), (3, .int z'.2.2)] [] 50) → xJ p l e rm_s_spreadOfErasures s m9 args below meth c G A 4 Q 0 0 shS q m h [(0, .ref (q 0)), (1, .int z.1), (2, .int z.2.1), (3, .int z.2.2)] [] 16 := by
  intro n
  induction n with
  | zero =>
    intro z hok _
    exact rOk_0 hok
  | succ n ih =>
    intro z hok K0
    have hnx := rOk_2 hok
    have hok := rOk_1 hok
    have hf := L_s_spreadOfErasures_16.eq_1 m z
    have hok := Eq.mp (K_s_spreadOfErasures_16.eq_1 m z) hok
    refine x_iload_n C dX1_spreadOfErasures_16 rfl 3 rfl ?_
    refine x_bipush (v := (12 : Int32)) C dX1_spreadOfErasures_17 (by decide) ?_
    refine x_icmp_ge (tgt := 50) C dX1_spreadOfErasures_19 (by decide) (fun c1 => ?_) (fun c1 => ?_)
    · have hf := hf.trans (if_pos c1)
      have hok := g_ip c1 hok
      exact K0 ((z.1, z.2.1, z.2.2)) (run_f hf)
    · have hf := hf.trans (if_neg c1)
      have hok := g_in c1 hok
      refine x_iload_n C dX1_spreadOfErasures_22 rfl 1 rfl ?_
      refine x_aload_n C dX1_spreadOfErasures_23 rfl 0 rfl ?_
      refine x_get (v := .ref (q 10)) C in_X1_spreadOfErasures_1 0 rfl rfl 9 (by decide) k_X1_spreadOfErasures_39 rfl rfl dX1_spreadOfErasures_24 ?_
      refine x_iload_n C dX1_spreadOfErasures_27 rfl 3 rfl ?_
      have s2 := And.left hok
      have hok := And.right hok
      refine x_iald (n := 12) (v := (m 10 z.2.2.toNatClampNeg)) C 10 rfl s2 rfl dX1_spreadOfErasures_28 ?_
      refine x_max C k_X1_spreadOfErasures_max1 k_X1_spreadOfErasures_max2 k_X1_spreadOfErasures_max3 k_X1_spreadOfErasures_max4 (Nat.le_of_ble_eq_true rfl) (Nat.le_of_ble_eq_true rfl) (Nat.zero_le _) (Nat.zero_le _) dX1_spreadOfErasures_29 rfl ?_
      obtain ⟨z3, hz3⟩ : ∃ y9 : Int32, y9 = (if z.1 < (m 10 z.2.2.toNatClampNeg) then (m 10 z.2.2.toNatClampNeg) else z.1) := ⟨_, rfl⟩
      have hf := hf.trans (g_let_eq hz3)
      have hok := g_let_p hz3 hok
      refine x_topi hz3 ?_
      refine x_istore_n (lv' := [(0, .ref (q 0)), (1, .int z3), (2, .int z.2.1), (3, .int z.2.2)]) C dX1_spreadOfErasures_32 rfl (by decide) [1, 0, 2, 3] rfl ?_
      refine x_iload_n C dX1_spreadOfErasures_33 rfl 2 rfl ?_
      refine x_aload_n C dX1_spreadOfErasures_34 rfl 0 rfl ?_
      refine x_get (v := .ref (q 10)) C in_X1_spreadOfErasures_1 0 rfl rfl 9 (by decide) k_X1_spreadOfErasures_39 rfl rfl dX1_spreadOfErasures_35 ?_
      refine x_iload_n C dX1_spreadOfErasures_38 rfl 3 rfl ?_
      have s4 := And.left hok
      have hok := And.right hok
      refine x_iald (n := 12) (v := (m 10 z.2.2.toNatClampNeg)) C 10 rfl s4 rfl dX1_spreadOfErasures_39 ?_
      refine x_min C k_X1_spreadOfErasures_min1 k_X1_spreadOfErasures_min2 k_X1_spreadOfErasures_min3 k_X1_spreadOfErasures_min4 (Nat.le_of_ble_eq_true rfl) (Nat.le_of_ble_eq_true rfl) (Nat.zero_le _) (Nat.zero_le _) dX1_spreadOfErasures_40 rfl ?_
      obtain ⟨z5, hz5⟩ : ∃ y9 : Int32, y9 = (if (m 10 z.2.2.toNatClampNeg) < z.2.1 then (m 10 z.2.2.toNatClampNeg) else z.2.1) := ⟨_, rfl⟩
      have hf := hf.trans (g_let_eq hz5)
      have hok := g_let_p hz5 hok
      refine x_topi hz5 ?_
      refine x_istore_n (lv' := [(0, .ref (q 0)), (1, .int z3), (2, .int z5), (3, .int z.2.2)]) C dX1_spreadOfErasures_43 rfl (by decide) [1, 2, 0, 3] rfl ?_
      obtain ⟨z6, hz6⟩ : ∃ y9 : Int32, y9 = (z.2.2 + (1 : Int32)) := ⟨_, rfl⟩
      have hf := hf.trans (g_let_eq hz6)
      have hok := g_let_p hz6 hok
      refine x_iinc (v := z6) (lv' := [(0, .ref (q 0)), (1, .int z3), (2, .int z5), (3, .int z6)]) C dX1_spreadOfErasures_44 3 rfl hz6.symm (by decide) [1, 2, 3, 0] rfl ?_
      refine x_goto (tgt := 16) C dX1_spreadOfErasures_47 (by decide) ?_
      exact ih ((z3, z5, z6)) (rOk_t hnx hf) (fun z' hz => K0 z' ((run_t hf).trans hz))
noncomputable def f_s_spreadOfErasures (m : gM) : Int32 := g_let ((m 10 (0 : Int32).toNatClampNeg)) (fun z1 : Int32 => g_let ((m 10 (0 : Int32).toNatClampNeg)) (fun z2 : Int32 => g_let (run (L_s_spreadOfErasures_16 m) 400 ((z1, z2, (1 : Int32)))) (fun z4 : Int32 × Int32 × Int32 => (z4.1 - z4.2.1))))
noncomputable def o_s_spreadOfErasures (m : gM) : Prop := g_let ((m 10 (0 : Int32).toNatClampNeg)) (fun z1 : Int32 => g_let ((m 10 (0 : Int32).toNatClampNeg)) (fun z2 : Int32 => (rOk (L_s_spreadOfErasures_16 m) (K_s_spreadOfErasures_16 m) 400 ((z1, z2, (1 : Int32)))) ∧ (g_let (run (L_s_spreadOfErasures_16 m) 400 ((z1, z2, (1 : Int32)))) (fun z4 : Int32 × Int32 × Int32 => True))))
set_option maxRecDepth 100000 in
set_option maxHeartbeats 4000000 in
theorem c_s_spreadOfErasures (l : Launch) (G : gG) (q : Nat → Nat) (m : gM) (h : gN) (hok : o_s_spreadOfErasures m) : gMi l yX1_spreadOfErasures wsX1_spreadOfErasures rm_s_spreadOfErasures G shS q m h [.ref (q 0)] m h (f_s_spreadOfErasures m) := by
  intro sz
  refine g_met (cc := cX1_spreadOfErasures) (maxL := 4) (ret := (some .int)) (own := RX1) (Qc := fun sz => gQi G shS q m h sz (f_s_spreadOfErasures m)) (by decide) rfl rfl (Nat.le_of_ble_eq_true rfl) (fun p e s m9 below meth c C hq hr => ?_)
  refine x_lv (lv' := [(0, .ref (q 0))]) [0] rfl ?_
  have hf := f_s_spreadOfErasures.eq_1 m
  have hok := Eq.mp (o_s_spreadOfErasures.eq_1 m) hok
  refine x_aload_n C dX1_spreadOfErasures_0 rfl 0 rfl ?_
  refine x_get (v := .ref (q 10)) C in_X1_spreadOfErasures_1 0 rfl rfl 9 (by decide) k_X1_spreadOfErasures_39 rfl rfl dX1_spreadOfErasures_1 ?_
  refine x_iconst (v := (0 : Int32)) C dX1_spreadOfErasures_4 (by decide) ?_
  refine x_iald (n := 12) (v := (m 10 (0 : Int32).toNatClampNeg)) C 10 rfl (by unfold vp_in; decide) rfl dX1_spreadOfErasures_5 ?_
  obtain ⟨z1, hz1⟩ : ∃ y9 : Int32, y9 = (m 10 (0 : Int32).toNatClampNeg) := ⟨_, rfl⟩
  have hf := hf.trans (g_let_eq hz1)
  have hok := g_let_p hz1 hok
  refine x_topi hz1 ?_
  refine x_istore_n (lv' := [(0, .ref (q 0)), (1, .int z1)]) C dX1_spreadOfErasures_6 rfl (by decide) [1, 0] rfl ?_
  refine x_aload_n C dX1_spreadOfErasures_7 rfl 0 rfl ?_
  refine x_get (v := .ref (q 10)) C in_X1_spreadOfErasures_1 0 rfl rfl 9 (by decide) k_X1_spreadOfErasures_39 rfl rfl dX1_spreadOfErasures_8 ?_
  refine x_iconst (v := (0 : Int32)) C dX1_spreadOfErasures_11 (by decide) ?_
  refine x_iald (n := 12) (v := (m 10 (0 : Int32).toNatClampNeg)) C 10 rfl (by unfold vp_in; decide) rfl dX1_spreadOfErasures_12 ?_
  obtain ⟨z2, hz2⟩ : ∃ y9 : Int32, y9 = (m 10 (0 : Int32).toNatClampNeg) := ⟨_, rfl⟩
  have hf := hf.trans (g_let_eq hz2)
  have hok := g_let_p hz2 hok
  refine x_topi hz2 ?_
  refine x_istore_n (lv' := [(0, .ref (q 0)), (1, .int z1), (2, .int z2)]) C dX1_spreadOfErasures_13 rfl (by decide) [1, 2, 0] rfl ?_
  refine x_iconst (v := (1 : Int32)) C dX1_spreadOfErasures_14 (by decide) ?_
  refine x_istore_n (lv' := [(0, .ref (q 0)), (1, .int z1), (2, .int z2), (3, .int (1 : Int32))]) C dX1_spreadOfErasures_15 rfl (by decide) [1, 2, 3, 0] rfl ?_
  have s3 := And.left hok
  have hok := And.right hok
  refine lp_s_spreadOfErasures_16 C hq m h 400 ((z1, z2, (1 : Int32))) s3 (fun z4 hz4 => ?_)
  have hf := hf.trans (g_let_eq hz4.symm)
  have hok := g_let_p hz4.symm hok
  refine x_iload_n C dX1_spreadOfErasures_50 rfl 1 rfl ?_
  refine x_iload_n C dX1_spreadOfErasures_51 rfl 2 rfl ?_
  refine x_isub C dX1_spreadOfErasures_52 ?_
  exact g_iret C hr rfl dX1_spreadOfErasures_53 hf.symm rfl rfl
set_option maxRecDepth 20000 in
theorem gs_S_a12_8 : gSub shS sha12 [8] := ⟨by decide, rfl⟩
set_option maxRecDepth 20000 in
theorem gs_S_a12_9 : gSub shS sha12 [9] := ⟨by decide, rfl⟩
set_option maxRecDepth 20000 in
theorem in_X1_total_1 : ∀ w ∈ u_ws RX1 TX1 17, w ∈ wsX1_total := by decide +kernel
set_option maxRecDepth 20000 in
theorem k_X1_total_33 : Cond.fieldLink RX1 33 "HintedPages$Store" "programmedOfBlock" "[I" ∈ wsX1_total := by decide +kernel
set_option maxRecDepth 20000 in
theorem k_X1_total_36 : Cond.fieldLink RX1 36 "HintedPages$Store" "validOfBlock" "[I" ∈ wsX1_total := by decide +kernel
set_option maxRecDepth 20000 in
theorem k_X1_total_57 : Cond.fieldLink RX1 57 "HintedPages$Store" "freeBlocks" "I" ∈ wsX1_total := by decide +kernel
abbrev rm_s_total : Room := { frames := 2, cells := 0, slots := 0, locals := 45 }
noncomputable def f_s_total (m : gM) (a1 : Int32) : Int32 := (if a1 = (0 : Int32) then (f_s_sum12 (g_sel [9] m)) else (if a1 = (1 : Int32) then (m 0 15) else (if a1 = (2 : Int32) then (f_s_openBlocks m) else (if a1 = (3 : Int32) then (((12 : Int32) - (m 0 15)) - (f_s_openBlocks m)) else (if a1 = (4 : Int32) then ((f_s_sum12 (g_sel [8] m)) - (f_s_sum12 (g_sel [9] m))) else (if a1 = (5 : Int32) then ((96 : Int32) - (f_s_sum12 (g_sel [8] m))) else (if a1 = (6 : Int32) then (f_s_writes m) else (if a1 = (7 : Int32) then (f_s_copies m) else (if a1 = (8 : Int32) then (f_s_erasures m) else (if a1 = (9 : Int32) then (f_s_spreadOfErasures m) else (f_s_victim m)))))))))))
noncomputable def o_s_total (m : gM) (a1 : Int32) : Prop := (if a1 = (0 : Int32) then (o_s_sum12 (g_sel [9] m)) ∧ (True) else (if a1 = (1 : Int32) then True else (if a1 = (2 : Int32) then (o_s_openBlocks m) ∧ (True) else (if a1 = (3 : Int32) then (o_s_openBlocks m) ∧ (True) else (if a1 = (4 : Int32) then (o_s_sum12 (g_sel [8] m)) ∧ ((o_s_sum12 (g_sel [9] m)) ∧ (True)) else (if a1 = (5 : Int32) then (o_s_sum12 (g_sel [8] m)) ∧ (True) else (if a1 = (6 : Int32) then (o_s_writes m) ∧ (True) else (if a1 = (7 : Int32) then (o_s_copies m) ∧ (True) else (if a1 = (8 : Int32) then (o_s_erasures m) ∧ (True) else (if a1 = (9 : Int32) then (o_s_spreadOfErasures m) ∧ (True) else (o_s_victim m) ∧ (True)))))))))))
set_option maxRecDepth 100000 in
set_option maxHeartbeats 4000000 in
theorem c_s_total (l : Launch) (G : gG) (q : Nat → Nat) (m : gM) (h : gN) (a1 : Int32) (hok : o_s_total m a1) : gMi l yX1_total wsX1_total rm_s_total G shS q m h [.ref (q 0), .int a1] m h (f_s_total m a1) := by
  intro sz
  refine g_met (cc := cX1_total) (maxL := 2) (ret := (some .int)) (own := RX1) (Qc := fun sz => gQi G shS q m h sz (f_s_total m a1)) (by decide) rfl rfl (Nat.le_of_ble_eq_true rfl) (fun p e s m9 below meth c C hq hr => ?_)
  refine x_lv (lv' := [(0, .ref (q 0)), (1, .int a1)]) [0, 1] rfl ?_
  have hf := f_s_total.eq_1 m a1
  have hok := Eq.mp (o_s_total.eq_1 m a1) hok
  refine x_iload_n C dX1_total_0 rfl 1 rfl ?_
  by_cases c1 : a1 = (0 : Int32)
  · have hf := hf.trans (if_pos c1)
    have hok := g_ip c1 hok
    refine x_tin (tgt := 56) C dX1_total_1 c1 (by decide) (by decide) rfl (by decide) ?_
    refine x_aload_n C dX1_total_56 rfl 0 rfl ?_
    refine x_get (v := .ref (q 9)) C in_X1_total_1 0 rfl rfl 8 (by decide) k_X1_total_36 rfl rfl dX1_total_57 ?_
    have s2 := And.left hok
    have hok := And.right hok
    refine x_callSi (n := 1) C hq (gFr_pure gs_S_a12_9) (c_s_sum12 l G (g_sel [9] q) (g_sel [9] m) (g_sel [9] h) s2) (va_cwS 1 C.2.2.2.2.2.1 gX1_total_X1_sum rfl rfl rfl (by decide +kernel) ⟨Nat.le_of_ble_eq_true rfl, Nat.le_of_ble_eq_true rfl⟩) rfl rfl (Nat.le_of_ble_eq_true rfl) dX1_total_60 (Nat.zero_le _) (Nat.zero_le _) ?_
    exact g_iret C hr rfl dX1_total_63 hf.symm rfl rfl
  · have hf := hf.trans (if_neg c1)
    have hok := g_in c1 hok
    by_cases c3 : a1 = (1 : Int32)
    · have hf := hf.trans (if_pos c3)
      have hok := g_ip c3 hok
      refine x_tin (tgt := 64) C dX1_total_1 c3 (by decide) (by decide) rfl (by decide) ?_
      refine x_aload_n C dX1_total_64 rfl 0 rfl ?_
      refine x_get (v := .int (m 0 15)) C in_X1_total_1 0 rfl rfl 15 (by decide) k_X1_total_57 rfl rfl dX1_total_65 ?_
      exact g_iret C hr rfl dX1_total_68 hf.symm rfl rfl
    · have hf := hf.trans (if_neg c3)
      have hok := g_in c3 hok
      by_cases c4 : a1 = (2 : Int32)
      · have hf := hf.trans (if_pos c4)
        have hok := g_ip c4 hok
        refine x_tin (tgt := 69) C dX1_total_1 c4 (by decide) (by decide) rfl (by decide) ?_
        refine x_aload_n C dX1_total_69 rfl 0 rfl ?_
        have s5 := And.left hok
        have hok := And.right hok
        refine x_callVi (n := 0) C hq gFr_same (c_s_openBlocks l G q m h s5) (cwV 0 C.2.2.2.2.2.1 gX1_total_X1_openBlocks rfl rfl rfl (by decide +kernel) ⟨Nat.le_of_ble_eq_true rfl, Nat.le_of_ble_eq_true rfl⟩) rfl rfl rfl rfl (Nat.le_of_ble_eq_true rfl) dX1_total_70 (Nat.zero_le _) (Nat.zero_le _) ?_
        exact g_iret C hr rfl dX1_total_73 hf.symm rfl rfl
      · have hf := hf.trans (if_neg c4)
        have hok := g_in c4 hok
        by_cases c6 : a1 = (3 : Int32)
        · have hf := hf.trans (if_pos c6)
          have hok := g_ip c6 hok
          refine x_tin (tgt := 74) C dX1_total_1 c6 (by decide) (by decide) rfl (by decide) ?_
          refine x_bipush (v := (12 : Int32)) C dX1_total_74 (by decide) ?_
          refine x_aload_n C dX1_total_76 rfl 0 rfl ?_
          refine x_get (v := .int (m 0 15)) C in_X1_total_1 0 rfl rfl 15 (by decide) k_X1_total_57 rfl rfl dX1_total_77 ?_
          refine x_isub C dX1_total_80 ?_
          refine x_aload_n C dX1_total_81 rfl 0 rfl ?_
          have s7 := And.left hok
          have hok := And.right hok
          refine x_callVi (n := 0) C hq gFr_same (c_s_openBlocks l G q m h s7) (cwV 0 C.2.2.2.2.2.1 gX1_total_X1_openBlocks rfl rfl rfl (by decide +kernel) ⟨Nat.le_of_ble_eq_true rfl, Nat.le_of_ble_eq_true rfl⟩) rfl rfl rfl rfl (Nat.le_of_ble_eq_true rfl) dX1_total_82 (Nat.zero_le _) (Nat.zero_le _) ?_
          refine x_isub C dX1_total_85 ?_
          exact g_iret C hr rfl dX1_total_86 hf.symm rfl rfl
        · have hf := hf.trans (if_neg c6)
          have hok := g_in c6 hok
          by_cases c8 : a1 = (4 : Int32)
          · have hf := hf.trans (if_pos c8)
            have hok := g_ip c8 hok
            refine x_tin (tgt := 87) C dX1_total_1 c8 (by decide) (by decide) rfl (by decide) ?_
            refine x_aload_n C dX1_total_87 rfl 0 rfl ?_
            refine x_get (v := .ref (q 8)) C in_X1_total_1 0 rfl rfl 7 (by decide) k_X1_total_33 rfl rfl dX1_total_88 ?_
            have s9 := And.left hok
            have hok := And.right hok
            refine x_callSi (n := 1) C hq (gFr_pure gs_S_a12_8) (c_s_sum12 l G (g_sel [8] q) (g_sel [8] m) (g_sel [8] h) s9) (va_cwS 1 C.2.2.2.2.2.1 gX1_total_X1_sum rfl rfl rfl (by decide +kernel) ⟨Nat.le_of_ble_eq_true rfl, Nat.le_of_ble_eq_true rfl⟩) rfl rfl (Nat.le_of_ble_eq_true rfl) dX1_total_91 (Nat.zero_le _) (Nat.zero_le _) ?_
            refine x_aload_n C dX1_total_94 rfl 0 rfl ?_
            refine x_get (v := .ref (q 9)) C in_X1_total_1 0 rfl rfl 8 (by decide) k_X1_total_36 rfl rfl dX1_total_95 ?_
            have s10 := And.left hok
            have hok := And.right hok
            refine x_callSi (n := 1) C hq (gFr_pure gs_S_a12_9) (c_s_sum12 l G (g_sel [9] q) (g_sel [9] m) (g_sel [9] h) s10) (va_cwS 1 C.2.2.2.2.2.1 gX1_total_X1_sum rfl rfl rfl (by decide +kernel) ⟨Nat.le_of_ble_eq_true rfl, Nat.le_of_ble_eq_true rfl⟩) rfl rfl (Nat.le_of_ble_eq_true rfl) dX1_total_98 (Nat.zero_le _) (Nat.zero_le _) ?_
            refine x_isub C dX1_total_101 ?_
            exact g_iret C hr rfl dX1_total_102 hf.symm rfl rfl
          · have hf := hf.trans (if_neg c8)
            have hok := g_in c8 hok
            by_cases c11 : a1 = (5 : Int32)
            · have hf := hf.trans (if_pos c11)
              have hok := g_ip c11 hok
              refine x_tin (tgt := 103) C dX1_total_1 c11 (by decide) (by decide) rfl (by decide) ?_
              refine x_bipush (v := (96 : Int32)) C dX1_total_103 (by decide) ?_
              refine x_aload_n C dX1_total_105 rfl 0 rfl ?_
              refine x_get (v := .ref (q 8)) C in_X1_total_1 0 rfl rfl 7 (by decide) k_X1_total_33 rfl rfl dX1_total_106 ?_
              have s12 := And.left hok
              have hok := And.right hok
              refine x_callSi (n := 1) C hq (gFr_pure gs_S_a12_8) (c_s_sum12 l G (g_sel [8] q) (g_sel [8] m) (g_sel [8] h) s12) (va_cwS 1 C.2.2.2.2.2.1 gX1_total_X1_sum rfl rfl rfl (by decide +kernel) ⟨Nat.le_of_ble_eq_true rfl, Nat.le_of_ble_eq_true rfl⟩) rfl rfl (Nat.le_of_ble_eq_true rfl) dX1_total_109 (Nat.zero_le _) (Nat.zero_le _) ?_
              refine x_isub C dX1_total_112 ?_
              exact g_iret C hr rfl dX1_total_113 hf.symm rfl rfl
            · have hf := hf.trans (if_neg c11)
              have hok := g_in c11 hok
              by_cases c13 : a1 = (6 : Int32)
              · have hf := hf.trans (if_pos c13)
                have hok := g_ip c13 hok
                refine x_tin (tgt := 114) C dX1_total_1 c13 (by decide) (by decide) rfl (by decide) ?_
                refine x_aload_n C dX1_total_114 rfl 0 rfl ?_
                have s14 := And.left hok
                have hok := And.right hok
                refine x_callVi (n := 0) C hq gFr_same (c_s_writes l G q m h s14) (cwV 0 C.2.2.2.2.2.1 gX1_total_X1_writes rfl rfl rfl (by decide +kernel) ⟨Nat.le_of_ble_eq_true rfl, Nat.le_of_ble_eq_true rfl⟩) rfl rfl rfl rfl (Nat.le_of_ble_eq_true rfl) dX1_total_115 (Nat.zero_le _) (Nat.zero_le _) ?_
                exact g_iret C hr rfl dX1_total_118 hf.symm rfl rfl
              · have hf := hf.trans (if_neg c13)
                have hok := g_in c13 hok
                by_cases c15 : a1 = (7 : Int32)
                · have hf := hf.trans (if_pos c15)
                  have hok := g_ip c15 hok
                  refine x_tin (tgt := 119) C dX1_total_1 c15 (by decide) (by decide) rfl (by decide) ?_
                  refine x_aload_n C dX1_total_119 rfl 0 rfl ?_
                  have s16 := And.left hok
                  have hok := And.right hok
                  refine x_callVi (n := 0) C hq gFr_same (c_s_copies l G q m h s16) (cwV 0 C.2.2.2.2.2.1 gX1_total_X1_copies rfl rfl rfl (by decide +kernel) ⟨Nat.le_of_ble_eq_true rfl, Nat.le_of_ble_eq_true rfl⟩) rfl rfl rfl rfl (Nat.le_of_ble_eq_true rfl) dX1_total_120 (Nat.zero_le _) (Nat.zero_le _) ?_
                  exact g_iret C hr rfl dX1_total_123 hf.symm rfl rfl
                · have hf := hf.trans (if_neg c15)
                  have hok := g_in c15 hok
                  by_cases c17 : a1 = (8 : Int32)
                  · have hf := hf.trans (if_pos c17)
                    have hok := g_ip c17 hok
                    refine x_tin (tgt := 124) C dX1_total_1 c17 (by decide) (by decide) rfl (by decide) ?_
                    refine x_aload_n C dX1_total_124 rfl 0 rfl ?_
                    have s18 := And.left hok
                    have hok := And.right hok
                    refine x_callVi (n := 0) C hq gFr_same (c_s_erasures l G q m h s18) (cwV 0 C.2.2.2.2.2.1 gX1_total_X1_erasures rfl rfl rfl (by decide +kernel) ⟨Nat.le_of_ble_eq_true rfl, Nat.le_of_ble_eq_true rfl⟩) rfl rfl rfl rfl (Nat.le_of_ble_eq_true rfl) dX1_total_125 (Nat.zero_le _) (Nat.zero_le _) ?_
                    exact g_iret C hr rfl dX1_total_128 hf.symm rfl rfl
                  · have hf := hf.trans (if_neg c17)
                    have hok := g_in c17 hok
                    by_cases c19 : a1 = (9 : Int32)
                    · have hf := hf.trans (if_pos c19)
                      have hok := g_ip c19 hok
                      refine x_tin (tgt := 129) C dX1_total_1 c19 (by decide) (by decide) rfl (by decide) ?_
                      refine x_aload_n C dX1_total_129 rfl 0 rfl ?_
                      have s20 := And.left hok
                      have hok := And.right hok
                      refine x_callVi (n := 0) C hq gFr_same (c_s_spreadOfErasures l G q m h s20) (cwV 0 C.2.2.2.2.2.1 gX1_total_X1_spreadOfErasures rfl rfl rfl (by decide +kernel) ⟨Nat.le_of_ble_eq_true rfl, Nat.le_of_ble_eq_true rfl⟩) rfl rfl rfl rfl (Nat.le_of_ble_eq_true rfl) dX1_total_130 (Nat.zero_le _) (Nat.zero_le _) ?_
                      exact g_iret C hr rfl dX1_total_133 hf.symm rfl rfl
                    · have hf := hf.trans (if_neg c19)
                      have hok := g_in c19 hok
                      refine x_tout (tgt := 134) C dX1_total_1 (by have wc1 := lv_neT (a := 0) c1 rfl; have wc3 := lv_neT (a := 1) c3 rfl; have wc4 := lv_neT (a := 2) c4 rfl; have wc6 := lv_neT (a := 3) c6 rfl; have wc8 := lv_neT (a := 4) c8 rfl; have wc11 := lv_neT (a := 5) c11 rfl; have wc13 := lv_neT (a := 6) c13 rfl; have wc15 := lv_neT (a := 7) c15 rfl; have wc17 := lv_neT (a := 8) c17 rfl; have wc19 := lv_neT (a := 9) c19 rfl; omega) (by decide) ?_
                      refine x_aload_n C dX1_total_134 rfl 0 rfl ?_
                      have s21 := And.left hok
                      have hok := And.right hok
                      refine x_callVi (n := 0) C hq gFr_same (c_s_victim l G q m h s21) (cwV 0 C.2.2.2.2.2.1 gX1_total_X1_victim rfl rfl rfl (by decide +kernel) ⟨Nat.le_of_ble_eq_true rfl, Nat.le_of_ble_eq_true rfl⟩) rfl rfl rfl rfl (Nat.le_of_ble_eq_true rfl) dX1_total_135 (Nat.zero_le _) (Nat.zero_le _) ?_
                      exact g_iret C hr rfl dX1_total_138 hf.symm rfl rfl
