def shc40 : List gC := [.inl 40, .inl 40]
set_option maxRecDepth 20000 in
theorem k_X1_copyRow_copy1 : Cond.methodLink RX1 80 arraycopyName ∈ wsX1_copyRow := by decide +kernel
set_option maxRecDepth 20000 in
theorem k_X1_copyRow_copy2 : Cond.native arraycopyName ∈ wsX1_copyRow := by decide +kernel
set_option maxRecDepth 20000 in
theorem k_X1_copyRow_copy3 : Cond.static arraycopyName ∈ wsX1_copyRow := by decide +kernel
set_option maxRecDepth 20000 in
theorem k_X1_copyRow_copy4 : Cond.initialized "java/lang/System" ∈ wsX1_copyRow := by decide +kernel
set_option maxRecDepth 20000 in
theorem k_X1_copyRow_min1 : Cond.methodLink RX1 74 Lib.Math.min.name ∈ wsX1_copyRow := by decide +kernel
set_option maxRecDepth 20000 in
theorem k_X1_copyRow_min2 : Cond.static Lib.Math.min.name ∈ wsX1_copyRow := by decide +kernel
set_option maxRecDepth 20000 in
theorem k_X1_copyRow_min3 : Cond.initialized "java/lang/Math" ∈ wsX1_copyRow := by decide +kernel
set_option maxRecDepth 20000 in
theorem k_X1_copyRow_min4 : Cond.code Lib.Math.min.name Lib.Math.min.code 2 (some .int) ∈ wsX1_copyRow := by decide +kernel
abbrev rm_s_copyRow40 : Room := { frames := 1, cells := 0, slots := 0, locals := 40 }
noncomputable def f_s_copyRow40 (m : gM) : gM := g_let (g_set m 1 (m 0)) (fun z1 : gM => z1)
noncomputable def o_s_copyRow40 (m : gM) : Prop := g_let (g_set m 1 (m 0)) (fun z1 : gM => True)
set_option maxRecDepth 100000 in
set_option maxHeartbeats 4000000 in
theorem c_s_copyRow40 (l : Launch) (G : gG) (q : Nat → Nat) (m : gM) (h : gN) (hok : o_s_copyRow40 m) : gMv l yX1_copyRow wsX1_copyRow rm_s_copyRow40 G shc40 q m h [.ref (q 0), .ref (q 1)] (f_s_copyRow40 m) h := by
  intro sz
  refine g_met (cc := cX1_copyRow) (maxL := 2) (ret := none) (own := RX1) (Qc := fun sz => gQv G shc40 q (f_s_copyRow40 m) h sz) (by decide) rfl rfl (Nat.le_of_ble_eq_true rfl) (fun p e s m9 below meth c C hq hr => ?_)
  refine x_lv (lv' := [(0, .ref (q 0)), (1, .ref (q 1))]) [0, 1] rfl ?_
  have hf := f_s_copyRow40.eq_1 m
  have hok := Eq.mp (o_s_copyRow40.eq_1 m) hok
  refine x_aload_n C dX1_copyRow_0 rfl 0 rfl ?_
  refine x_iconst (v := (0 : Int32)) C dX1_copyRow_1 (by decide) ?_
  refine x_aload_n C dX1_copyRow_2 rfl 1 rfl ?_
  refine x_iconst (v := (0 : Int32)) C dX1_copyRow_3 (by decide) ?_
  refine x_aload_n C dX1_copyRow_4 rfl 0 rfl ?_
  refine x_alen (n := 40) (v := (40 : Int32)) C 0 rfl rfl dX1_copyRow_5 ?_
  refine x_aload_n C dX1_copyRow_6 rfl 1 rfl ?_
  refine x_alen (n := 40) (v := (40 : Int32)) C 1 rfl rfl dX1_copyRow_7 ?_
  refine x_min C k_X1_copyRow_min1 k_X1_copyRow_min2 k_X1_copyRow_min3 k_X1_copyRow_min4 (Nat.le_of_ble_eq_true rfl) (Nat.le_of_ble_eq_true rfl) (Nat.zero_le _) (Nat.zero_le _) dX1_copyRow_8 rfl ?_
  obtain ⟨z1, hz1⟩ : ∃ y9 : gM, y9 = g_set m 1 (m 0) := ⟨_, rfl⟩
  have hf := hf.trans (g_let_eq hz1)
  have hok := g_let_p hz1 hok
  refine x_copy0 (μ' := z1) (N := 40) C hq 0 1 rfl rfl (by decide) (by decide) (by decide) (by decide) k_X1_copyRow_copy1 k_X1_copyRow_copy2 k_X1_copyRow_copy3 k_X1_copyRow_copy4 hz1 (Nat.le_of_ble_eq_true rfl) (by decide) dX1_copyRow_11 ?_
  exact g_vret C hr dX1_copyRow_14 hf.symm rfl
def shc96 : List gC := [.inl 96, .inl 96]
abbrev rm_s_copyRow96 : Room := { frames := 1, cells := 0, slots := 0, locals := 40 }
noncomputable def f_s_copyRow96 (m : gM) : gM := g_let (g_set m 1 (m 0)) (fun z1 : gM => z1)
noncomputable def o_s_copyRow96 (m : gM) : Prop := g_let (g_set m 1 (m 0)) (fun z1 : gM => True)
set_option maxRecDepth 100000 in
set_option maxHeartbeats 4000000 in
theorem c_s_copyRow96 (l : Launch) (G : gG) (q : Nat → Nat) (m : gM) (h : gN) (hok : o_s_copyRow96 m) : gMv l yX1_copyRow wsX1_copyRow rm_s_copyRow96 G shc96 q m h [.ref (q 0), .ref (q 1)] (f_s_copyRow96 m) h := by
  intro sz
  refine g_met (cc := cX1_copyRow) (maxL := 2) (ret := none) (own := RX1) (Qc := fun sz => gQv G shc96 q (f_s_copyRow96 m) h sz) (by decide) rfl rfl (Nat.le_of_ble_eq_true rfl) (fun p e s m9 below meth c C hq hr => ?_)
  refine x_lv (lv' := [(0, .ref (q 0)), (1, .ref (q 1))]) [0, 1] rfl ?_
  have hf := f_s_copyRow96.eq_1 m
  have hok := Eq.mp (o_s_copyRow96.eq_1 m) hok
  refine x_aload_n C dX1_copyRow_0 rfl 0 rfl ?_
  refine x_iconst (v := (0 : Int32)) C dX1_copyRow_1 (by decide) ?_
  refine x_aload_n C dX1_copyRow_2 rfl 1 rfl ?_
  refine x_iconst (v := (0 : Int32)) C dX1_copyRow_3 (by decide) ?_
  refine x_aload_n C dX1_copyRow_4 rfl 0 rfl ?_
  refine x_alen (n := 96) (v := (96 : Int32)) C 0 rfl rfl dX1_copyRow_5 ?_
  refine x_aload_n C dX1_copyRow_6 rfl 1 rfl ?_
  refine x_alen (n := 96) (v := (96 : Int32)) C 1 rfl rfl dX1_copyRow_7 ?_
  refine x_min C k_X1_copyRow_min1 k_X1_copyRow_min2 k_X1_copyRow_min3 k_X1_copyRow_min4 (Nat.le_of_ble_eq_true rfl) (Nat.le_of_ble_eq_true rfl) (Nat.zero_le _) (Nat.zero_le _) dX1_copyRow_8 rfl ?_
  obtain ⟨z1, hz1⟩ : ∃ y9 : gM, y9 = g_set m 1 (m 0) := ⟨_, rfl⟩
  have hf := hf.trans (g_let_eq hz1)
  have hok := g_let_p hz1 hok
  refine x_copy0 (μ' := z1) (N := 96) C hq 0 1 rfl rfl (by decide) (by decide) (by decide) (by decide) k_X1_copyRow_copy1 k_X1_copyRow_copy2 k_X1_copyRow_copy3 k_X1_copyRow_copy4 hz1 (Nat.le_of_ble_eq_true rfl) (by decide) dX1_copyRow_11 ?_
  exact g_vret C hr dX1_copyRow_14 hf.symm rfl
def shc12 : List gC := [.inl 12, .inl 12]
abbrev rm_s_copyRow12 : Room := { frames := 1, cells := 0, slots := 0, locals := 40 }
noncomputable def f_s_copyRow12 (m : gM) : gM := g_let (g_set m 1 (m 0)) (fun z1 : gM => z1)
noncomputable def o_s_copyRow12 (m : gM) : Prop := g_let (g_set m 1 (m 0)) (fun z1 : gM => True)
set_option maxRecDepth 100000 in
set_option maxHeartbeats 4000000 in
theorem c_s_copyRow12 (l : Launch) (G : gG) (q : Nat → Nat) (m : gM) (h : gN) (hok : o_s_copyRow12 m) : gMv l yX1_copyRow wsX1_copyRow rm_s_copyRow12 G shc12 q m h [.ref (q 0), .ref (q 1)] (f_s_copyRow12 m) h := by
  intro sz
  refine g_met (cc := cX1_copyRow) (maxL := 2) (ret := none) (own := RX1) (Qc := fun sz => gQv G shc12 q (f_s_copyRow12 m) h sz) (by decide) rfl rfl (Nat.le_of_ble_eq_true rfl) (fun p e s m9 below meth c C hq hr => ?_)
  refine x_lv (lv' := [(0, .ref (q 0)), (1, .ref (q 1))]) [0, 1] rfl ?_
  have hf := f_s_copyRow12.eq_1 m
  have hok := Eq.mp (o_s_copyRow12.eq_1 m) hok
  refine x_aload_n C dX1_copyRow_0 rfl 0 rfl ?_
  refine x_iconst (v := (0 : Int32)) C dX1_copyRow_1 (by decide) ?_
  refine x_aload_n C dX1_copyRow_2 rfl 1 rfl ?_
  refine x_iconst (v := (0 : Int32)) C dX1_copyRow_3 (by decide) ?_
  refine x_aload_n C dX1_copyRow_4 rfl 0 rfl ?_
  refine x_alen (n := 12) (v := (12 : Int32)) C 0 rfl rfl dX1_copyRow_5 ?_
  refine x_aload_n C dX1_copyRow_6 rfl 1 rfl ?_
  refine x_alen (n := 12) (v := (12 : Int32)) C 1 rfl rfl dX1_copyRow_7 ?_
  refine x_min C k_X1_copyRow_min1 k_X1_copyRow_min2 k_X1_copyRow_min3 k_X1_copyRow_min4 (Nat.le_of_ble_eq_true rfl) (Nat.le_of_ble_eq_true rfl) (Nat.zero_le _) (Nat.zero_le _) dX1_copyRow_8 rfl ?_
  obtain ⟨z1, hz1⟩ : ∃ y9 : gM, y9 = g_set m 1 (m 0) := ⟨_, rfl⟩
  have hf := hf.trans (g_let_eq hz1)
  have hok := g_let_p hz1 hok
  refine x_copy0 (μ' := z1) (N := 12) C hq 0 1 rfl rfl (by decide) (by decide) (by decide) (by decide) k_X1_copyRow_copy1 k_X1_copyRow_copy2 k_X1_copyRow_copy3 k_X1_copyRow_copy4 hz1 (Nat.le_of_ble_eq_true rfl) (by decide) dX1_copyRow_11 ?_
  exact g_vret C hr dX1_copyRow_14 hf.symm rfl
def shc5 : List gC := [.inl 5, .inl 5]
abbrev rm_s_copyRow5 : Room := { frames := 1, cells := 0, slots := 0, locals := 40 }
noncomputable def f_s_copyRow5 (m : gM) : gM := g_let (g_set m 1 (m 0)) (fun z1 : gM => z1)
noncomputable def o_s_copyRow5 (m : gM) : Prop := g_let (g_set m 1 (m 0)) (fun z1 : gM => True)
set_option maxRecDepth 100000 in
set_option maxHeartbeats 4000000 in
theorem c_s_copyRow5 (l : Launch) (G : gG) (q : Nat → Nat) (m : gM) (h : gN) (hok : o_s_copyRow5 m) : gMv l yX1_copyRow wsX1_copyRow rm_s_copyRow5 G shc5 q m h [.ref (q 0), .ref (q 1)] (f_s_copyRow5 m) h := by
  intro sz
  refine g_met (cc := cX1_copyRow) (maxL := 2) (ret := none) (own := RX1) (Qc := fun sz => gQv G shc5 q (f_s_copyRow5 m) h sz) (by decide) rfl rfl (Nat.le_of_ble_eq_true rfl) (fun p e s m9 below meth c C hq hr => ?_)
  refine x_lv (lv' := [(0, .ref (q 0)), (1, .ref (q 1))]) [0, 1] rfl ?_
  have hf := f_s_copyRow5.eq_1 m
  have hok := Eq.mp (o_s_copyRow5.eq_1 m) hok
  refine x_aload_n C dX1_copyRow_0 rfl 0 rfl ?_
  refine x_iconst (v := (0 : Int32)) C dX1_copyRow_1 (by decide) ?_
  refine x_aload_n C dX1_copyRow_2 rfl 1 rfl ?_
  refine x_iconst (v := (0 : Int32)) C dX1_copyRow_3 (by decide) ?_
  refine x_aload_n C dX1_copyRow_4 rfl 0 rfl ?_
  refine x_alen (n := 5) (v := (5 : Int32)) C 0 rfl rfl dX1_copyRow_5 ?_
  refine x_aload_n C dX1_copyRow_6 rfl 1 rfl ?_
  refine x_alen (n := 5) (v := (5 : Int32)) C 1 rfl rfl dX1_copyRow_7 ?_
  refine x_min C k_X1_copyRow_min1 k_X1_copyRow_min2 k_X1_copyRow_min3 k_X1_copyRow_min4 (Nat.le_of_ble_eq_true rfl) (Nat.le_of_ble_eq_true rfl) (Nat.zero_le _) (Nat.zero_le _) dX1_copyRow_8 rfl ?_
  obtain ⟨z1, hz1⟩ : ∃ y9 : gM, y9 = g_set m 1 (m 0) := ⟨_, rfl⟩
  have hf := hf.trans (g_let_eq hz1)
  have hok := g_let_p hz1 hok
  refine x_copy0 (μ' := z1) (N := 5) C hq 0 1 rfl rfl (by decide) (by decide) (by decide) (by decide) k_X1_copyRow_copy1 k_X1_copyRow_copy2 k_X1_copyRow_copy3 k_X1_copyRow_copy4 hz1 (Nat.le_of_ble_eq_true rfl) (by decide) dX1_copyRow_11 ?_
  exact g_vret C hr dX1_copyRow_14 hf.symm rfl
def shc2 : List gC := [.inl 2, .inl 2]
abbrev rm_s_copyRow2 : Room := { frames := 1, cells := 0, slots := 0, locals := 40 }
noncomputable def f_s_copyRow2 (m : gM) : gM := g_let (g_set m 1 (m 0)) (fun z1 : gM => z1)
noncomputable def o_s_copyRow2 (m : gM) : Prop := g_let (g_set m 1 (m 0)) (fun z1 : gM => True)
set_option maxRecDepth 100000 in
set_option maxHeartbeats 4000000 in
theorem c_s_copyRow2 (l : Launch) (G : gG) (q : Nat → Nat) (m : gM) (h : gN) (hok : o_s_copyRow2 m) : gMv l yX1_copyRow wsX1_copyRow rm_s_copyRow2 G shc2 q m h [.ref (q 0), .ref (q 1)] (f_s_copyRow2 m) h := by
  intro sz
  refine g_met (cc := cX1_copyRow) (maxL := 2) (ret := none) (own := RX1) (Qc := fun sz => gQv G shc2 q (f_s_copyRow2 m) h sz) (by decide) rfl rfl (Nat.le_of_ble_eq_true rfl) (fun p e s m9 below meth c C hq hr => ?_)
  refine x_lv (lv' := [(0, .ref (q 0)), (1, .ref (q 1))]) [0, 1] rfl ?_
  have hf := f_s_copyRow2.eq_1 m
  have hok := Eq.mp (o_s_copyRow2.eq_1 m) hok
  refine x_aload_n C dX1_copyRow_0 rfl 0 rfl ?_
  refine x_iconst (v := (0 : Int32)) C dX1_copyRow_1 (by decide) ?_
  refine x_aload_n C dX1_copyRow_2 rfl 1 rfl ?_
  refine x_iconst (v := (0 : Int32)) C dX1_copyRow_3 (by decide) ?_
  refine x_aload_n C dX1_copyRow_4 rfl 0 rfl ?_
  refine x_alen (n := 2) (v := (2 : Int32)) C 0 rfl rfl dX1_copyRow_5 ?_
  refine x_aload_n C dX1_copyRow_6 rfl 1 rfl ?_
  refine x_alen (n := 2) (v := (2 : Int32)) C 1 rfl rfl dX1_copyRow_7 ?_
  refine x_min C k_X1_copyRow_min1 k_X1_copyRow_min2 k_X1_copyRow_min3 k_X1_copyRow_min4 (Nat.le_of_ble_eq_true rfl) (Nat.le_of_ble_eq_true rfl) (Nat.zero_le _) (Nat.zero_le _) dX1_copyRow_8 rfl ?_
  obtain ⟨z1, hz1⟩ : ∃ y9 : gM, y9 = g_set m 1 (m 0) := ⟨_, rfl⟩
  have hf := hf.trans (g_let_eq hz1)
  have hok := g_let_p hz1 hok
  refine x_copy0 (μ' := z1) (N := 2) C hq 0 1 rfl rfl (by decide) (by decide) (by decide) (by decide) k_X1_copyRow_copy1 k_X1_copyRow_copy2 k_X1_copyRow_copy3 k_X1_copyRow_copy4 hz1 (Nat.le_of_ble_eq_true rfl) (by decide) dX1_copyRow_11 ?_
  exact g_vret C hr dX1_copyRow_14 hf.symm rfl
def sha40 : List gC := [.inl 40]
abbrev rm_s_sum40 : Room := { frames := 0, cells := 0, slots := 0, locals := 0 }
noncomputable def L_s_sum40_10 (m : gM) (x3 : Int32) (z : Int32 × Int32) : Bool × (Int32 × Int32) := (if x3 ≤ z.2 then (false, (z.1, z.2)) else g_let ((m 0 z.2.toNatClampNeg)) (fun z3 : Int32 => g_let ((z.1 + z3)) (fun z4 : Int32 => g_let ((z.2 + (1 : Int32))) (fun z5 : Int32 => (true, (z4, z5))))))
noncomputable def K_s_sum40_10 (m : gM) (x3 : Int32) (z : Int32 × Int32) : Prop := (if x3 ≤ z.2 then True else (vp_in z.2 40) ∧ (g_let ((m 0 z.2.toNatClampNeg)) (fun z3 : Int32 => g_let ((z.1 + z3)) (fun z4 : Int32 => g_let ((z.2 + (1 : Int32))) (fun z5 : Int32 => True)))))
set_option maxRecDepth 100000 in
set_option maxHeartbeats 4000000 in
theorem lp_s_sum40_10 {p : Program} {l : Launch} {e : Env} {s : State} {m9 : MethodId} {args : Array Value} {below : List Frame} {meth : Method} {c : Code} {G : gG} {A : Nat → Prop} {Q : State → Prop} {q : Nat → Nat} (C : xC p s m9 args meth c G A 6 cX1_sum RX1 wsX1_sum) (hq : gD A q sha40.length) (m : gM) (h : gN) (x3 : Int32) : ∀ (n : Nat) (z : Int32 × Int32), rOk (L_s_sum40_10 m x3) (K_s_sum40_10 m x3) n z → (∀ z' : Int32 × Int32, run (L_s_sum40_10 m x3) n z = z' → xJ p l e rm_s_sum40 s m9 args below meth c G A 6 Q 0 0 sha40 q m h [(0, .ref (q 0)), (1, .int z'.1), (2, .ref (q 0)), (3, .int x3), (4, .int z'.2)] [] 33) → xJ p l e rm_s_sum40 s m9 args below meth c G A 6 Q 0 0 sha40 q m h [(0, .ref (q 0)), (1, .int z.1), (2, .ref (q 0)), (3, .int x3), (4, .int z.2)] [] 10 := by
  intro n
  induction n with
  | zero =>
    intro z hok _
    exact rOk_0 hok
  | succ n ih =>
    intro z hok K0
    have hnx := rOk_2 hok
    have hok := rOk_1 hok
    have hf := L_s_sum40_10.eq_1 m x3 z
    have hok := Eq.mp (K_s_sum40_10.eq_1 m x3 z) hok
    refine x_iload C dX1_sum_10 4 rfl ?_
    refine x_iload_n C dX1_sum_12 rfl 3 rfl ?_
    refine x_icmp_ge (tgt := 33) C dX1_sum_13 (by decide) (fun c1 => ?_) (fun c1 => ?_)
    · have hf := hf.trans (if_pos c1)
      have hok := g_ip c1 hok
      exact K0 ((z.1, z.2)) (run_f hf)
    · have hf := hf.trans (if_neg c1)
      have hok := g_in c1 hok
      refine x_aload_n C dX1_sum_16 rfl 2 rfl ?_
      refine x_iload C dX1_sum_17 4 rfl ?_
      have s2 := And.left hok
      have hok := And.right hok
      refine x_iald (n := 40) (v := (m 0 z.2.toNatClampNeg)) C 0 rfl s2 rfl dX1_sum_19 ?_
      obtain ⟨z3, hz3⟩ : ∃ y9 : Int32, y9 = (m 0 z.2.toNatClampNeg) := ⟨_, rfl⟩
      have hf := hf.trans (g_let_eq hz3)
      have hok := g_let_p hz3 hok
      refine x_topi hz3 ?_
      refine x_istore (lv' := [(0, .ref (q 0)), (1, .int z.1), (2, .ref (q 0)), (3, .int x3), (4, .int z.2), (5, .int z3)]) C dX1_sum_20 (by decide) [1, 2, 3, 4, 5, 0] rfl ?_
      refine x_iload_n C dX1_sum_22 rfl 1 rfl ?_
      refine x_iload C dX1_sum_23 5 rfl ?_
      refine x_iadd C dX1_sum_25 ?_
      obtain ⟨z4, hz4⟩ : ∃ y9 : Int32, y9 = (z.1 + z3) := ⟨_, rfl⟩
      have hf := hf.trans (g_let_eq hz4)
      have hok := g_let_p hz4 hok
      refine x_topi hz4 ?_
      refine x_istore_n (lv' := [(0, .ref (q 0)), (1, .int z4), (2, .ref (q 0)), (3, .int x3), (4, .int z.2), (5, .int z3)]) C dX1_sum_26 rfl (by decide) [1, 0, 2, 3, 4, 5] rfl ?_
      obtain ⟨z5, hz5⟩ : ∃ y9 : Int32, y9 = (z.2 + (1 : Int32)) := ⟨_, rfl⟩
      have hf := hf.trans (g_let_eq hz5)
      have hok := g_let_p hz5 hok
      refine x_iinc (v := z5) (lv' := [(0, .ref (q 0)), (1, .int z4), (2, .ref (q 0)), (3, .int x3), (4, .int z5), (5, .int z3)]) C dX1_sum_27 4 rfl hz5.symm (by decide) [1, 2, 3, 4, 0, 5] rfl ?_
      refine x_goto (tgt := 10) C dX1_sum_30 (by decide) ?_
      refine x_lv (lv' := [(0, .ref (q 0)), (1, .int z4), (2, .ref (q 0)), (3, .int x3), (4, .int z5)]) [0, 1, 2, 3, 4] rfl ?_
      exact ih ((z4, z5)) (rOk_t hnx hf) (fun z' hz => K0 z' ((run_t hf).trans hz))
noncomputable def f_s_sum40 (m : gM) : Int32 := g_let (run (L_s_sum40_10 m (40 : Int32)) 400 (((0 : Int32), (0 : Int32)))) (fun z2 : Int32 × Int32 => z2.1)
noncomputable def o_s_sum40 (m : gM) : Prop := (rOk (L_s_sum40_10 m (40 : Int32)) (K_s_sum40_10 m (40 : Int32)) 400 (((0 : Int32), (0 : Int32)))) ∧ (g_let (run (L_s_sum40_10 m (40 : Int32)) 400 (((0 : Int32), (0 : Int32)))) (fun z2 : Int32 × Int32 => True))
set_option maxRecDepth 100000 in
set_option maxHeartbeats 4000000 in
theorem c_s_sum40 (l : Launch) (G : gG) (q : Nat → Nat) (m : gM) (h : gN) (hok : o_s_sum40 m) : gMi l yX1_sum wsX1_sum rm_s_sum40 G sha40 q m h [.ref (q 0)] m h (f_s_sum40 m) := by
  intro sz
  refine g_met (cc := cX1_sum) (maxL := 6) (ret := (some .int)) (own := RX1) (Qc := fun sz => gQi G sha40 q m h sz (f_s_sum40 m)) (by decide) rfl rfl (Nat.le_of_ble_eq_true rfl) (fun p e s m9 below meth c C hq hr => ?_)
  refine x_lv (lv' := [(0, .ref (q 0))]) [0] rfl ?_
  have hf := f_s_sum40.eq_1 m
  have hok := Eq.mp (o_s_sum40.eq_1 m) hok
  refine x_iconst (v := (0 : Int32)) C dX1_sum_0 (by decide) ?_
  refine x_istore_n (lv' := [(0, .ref (q 0)), (1, .int (0 : Int32))]) C dX1_sum_1 rfl (by decide) [1, 0] rfl ?_
  refine x_aload_n C dX1_sum_2 rfl 0 rfl ?_
  refine x_astore_n (lv' := [(0, .ref (q 0)), (1, .int (0 : Int32)), (2, .ref (q 0))]) C dX1_sum_3 rfl (by decide) [1, 2, 0] rfl ?_
  refine x_aload_n C dX1_sum_4 rfl 2 rfl ?_
  refine x_alen (n := 40) (v := (40 : Int32)) C 0 rfl rfl dX1_sum_5 ?_
  refine x_istore_n (lv' := [(0, .ref (q 0)), (1, .int (0 : Int32)), (2, .ref (q 0)), (3, .int (40 : Int32))]) C dX1_sum_6 rfl (by decide) [1, 2, 3, 0] rfl ?_
  refine x_iconst (v := (0 : Int32)) C dX1_sum_7 (by decide) ?_
  refine x_istore (lv' := [(0, .ref (q 0)), (1, .int (0 : Int32)), (2, .ref (q 0)), (3, .int (40 : Int32)), (4, .int (0 : Int32))]) C dX1_sum_8 (by decide) [1, 2, 3, 4, 0] rfl ?_
  have s1 := And.left hok
  have hok := And.right hok
  refine lp_s_sum40_10 C hq m h (40 : Int32) 400 (((0 : Int32), (0 : Int32))) s1 (fun z2 hz2 => ?_)
  have hf := hf.trans (g_let_eq hz2.symm)
  have hok := g_let_p hz2.symm hok
  refine x_iload_n C dX1_sum_33 rfl 1 rfl ?_
  exact g_iret C hr rfl dX1_sum_34 hf.symm rfl rfl
def sha12 : List gC := [.inl 12]
abbrev rm_s_sum12 : Room := { frames := 0, cells := 0, slots := 0, locals := 0 }
noncomputable def L_s_sum12_10 (m : gM) (x3 : Int32) (z : Int32 × Int32) : Bool × (Int32 × Int32) := (if x3 ≤ z.2 then (false, (z.1, z.2)) else g_let ((m 0 z.2.toNatClampNeg)) (fun z3 : Int32 => g_let ((z.1 + z3)) (fun z4 : Int32 => g_let ((z.2 + (1 : Int32))) (fun z5 : Int32 => (true, (z4, z5))))))
noncomputable def K_s_sum12_10 (m : gM) (x3 : Int32) (z : Int32 × Int32) : Prop := (if x3 ≤ z.2 then True else (vp_in z.2 12) ∧ (g_let ((m 0 z.2.toNatClampNeg)) (fun z3 : Int32 => g_let ((z.1 + z3)) (fun z4 : Int32 => g_let ((z.2 + (1 : Int32))) (fun z5 : Int32 => True)))))
set_option maxRecDepth 100000 in
set_option maxHeartbeats 4000000 in
theorem lp_s_sum12_10 {p : Program} {l : Launch} {e : Env} {s : State} {m9 : MethodId} {args : Array Value} {below : List Frame} {meth : Method} {c : Code} {G : gG} {A : Nat → Prop} {Q : State → Prop} {q : Nat → Nat} (C : xC p s m9 args meth c G A 6 cX1_sum RX1 wsX1_sum) (hq : gD A q sha12.length) (m : gM) (h : gN) (x3 : Int32) : ∀ (n : Nat) (z : Int32 × Int32), rOk (L_s_sum12_10 m x3) (K_s_sum12_10 m x3) n z → (∀ z' : Int32 × Int32, run (L_s_sum12_10 m x3) n z = z' → xJ p l e rm_s_sum12 s m9 args below meth c G A 6 Q 0 0 sha12 q m h [(0, .ref (q 0)), (1, .int z'.1), (2, .ref (q 0)), (3, .int x3), (4, .int z'.2)] [] 33) → xJ p l e rm_s_sum12 s m9 args below meth c G A 6 Q 0 0 sha12 q m h [(0, .ref (q 0)), (1, .int z.1), (2, .ref (q 0)), (3, .int x3), (4, .int z.2)] [] 10 := by
  intro n
  induction n with
  | zero =>
    intro z hok _
    exact rOk_0 hok
  | succ n ih =>
    intro z hok K0
    have hnx := rOk_2 hok
    have hok := rOk_1 hok
    have hf := L_s_sum12_10.eq_1 m x3 z
    have hok := Eq.mp (K_s_sum12_10.eq_1 m x3 z) hok
    refine x_iload C dX1_sum_10 4 rfl ?_
    refine x_iload_n C dX1_sum_12 rfl 3 rfl ?_
    refine x_icmp_ge (tgt := 33) C dX1_sum_13 (by decide) (fun c1 => ?_) (fun c1 => ?_)
    · have hf := hf.trans (if_pos c1)
      have hok := g_ip c1 hok
      exact K0 ((z.1, z.2)) (run_f hf)
    · have hf := hf.trans (if_neg c1)
      have hok := g_in c1 hok
      refine x_aload_n C dX1_sum_16 rfl 2 rfl ?_
      refine x_iload C dX1_sum_17 4 rfl ?_
      have s2 := And.left hok
      have hok := And.right hok
      refine x_iald (n := 12) (v := (m 0 z.2.toNatClampNeg)) C 0 rfl s2 rfl dX1_sum_19 ?_
      obtain ⟨z3, hz3⟩ : ∃ y9 : Int32, y9 = (m 0 z.2.toNatClampNeg) := ⟨_, rfl⟩
      have hf := hf.trans (g_let_eq hz3)
      have hok := g_let_p hz3 hok
      refine x_topi hz3 ?_
      refine x_istore (lv' := [(0, .ref (q 0)), (1, .int z.1), (2, .ref (q 0)), (3, .int x3), (4, .int z.2), (5, .int z3)]) C dX1_sum_20 (by decide) [1, 2, 3, 4, 5, 0] rfl ?_
      refine x_iload_n C dX1_sum_22 rfl 1 rfl ?_
      refine x_iload C dX1_sum_23 5 rfl ?_
      refine x_iadd C dX1_sum_25 ?_
      obtain ⟨z4, hz4⟩ : ∃ y9 : Int32, y9 = (z.1 + z3) := ⟨_, rfl⟩
      have hf := hf.trans (g_let_eq hz4)
      have hok := g_let_p hz4 hok
      refine x_topi hz4 ?_
      refine x_istore_n (lv' := [(0, .ref (q 0)), (1, .int z4), (2, .ref (q 0)), (3, .int x3), (4, .int z.2), (5, .int z3)]) C dX1_sum_26 rfl (by decide) [1, 0, 2, 3, 4, 5] rfl ?_
      obtain ⟨z5, hz5⟩ : ∃ y9 : Int32, y9 = (z.2 + (1 : Int32)) := ⟨_, rfl⟩
      have hf := hf.trans (g_let_eq hz5)
      have hok := g_let_p hz5 hok
      refine x_iinc (v := z5) (lv' := [(0, .ref (q 0)), (1, .int z4), (2, .ref (q 0)), (3, .int x3), (4, .int z5), (5, .int z3)]) C dX1_sum_27 4 rfl hz5.symm (by decide) [1, 2, 3, 4, 0, 5] rfl ?_
      refine x_goto (tgt := 10) C dX1_sum_30 (by decide) ?_
      refine x_lv (lv' := [(0, .ref (q 0)), (1, .int z4), (2, .ref (q 0)), (3, .int x3), (4, .int z5)]) [0, 1, 2, 3, 4] rfl ?_
      exact ih ((z4, z5)) (rOk_t hnx hf) (fun z' hz => K0 z' ((run_t hf).trans hz))
noncomputable def f_s_sum12 (m : gM) : Int32 := g_let (run (L_s_sum12_10 m (12 : Int32)) 400 (((0 : Int32), (0 : Int32)))) (fun z2 : Int32 × Int32 => z2.1)
noncomputable def o_s_sum12 (m : gM) : Prop := (rOk (L_s_sum12_10 m (12 : Int32)) (K_s_sum12_10 m (12 : Int32)) 400 (((0 : Int32), (0 : Int32)))) ∧ (g_let (run (L_s_sum12_10 m (12 : Int32)) 400 (((0 : Int32), (0 : Int32)))) (fun z2 : Int32 × Int32 => True))
set_option maxRecDepth 100000 in
set_option maxHeartbeats 4000000 in
theorem c_s_sum12 (l : Launch) (G : gG) (q : Nat → Nat) (m : gM) (h : gN) (hok : o_s_sum12 m) : gMi l yX1_sum wsX1_sum rm_s_sum12 G sha12 q m h [.ref (q 0)] m h (f_s_sum12 m) := by
  intro sz
  refine g_met (cc := cX1_sum) (maxL := 6) (ret := (some .int)) (own := RX1) (Qc := fun sz => gQi G sha12 q m h sz (f_s_sum12 m)) (by decide) rfl rfl (Nat.le_of_ble_eq_true rfl) (fun p e s m9 below meth c C hq hr => ?_)
  refine x_lv (lv' := [(0, .ref (q 0))]) [0] rfl ?_
  have hf := f_s_sum12.eq_1 m
  have hok := Eq.mp (o_s_sum12.eq_1 m) hok
  refine x_iconst (v := (0 : Int32)) C dX1_sum_0 (by decide) ?_
  refine x_istore_n (lv' := [(0, .ref (q 0)), (1, .int (0 : Int32))]) C dX1_sum_1 rfl (by decide) [1, 0] rfl ?_
  refine x_aload_n C dX1_sum_2 rfl 0 rfl ?_
  refine x_astore_n (lv' := [(0, .ref (q 0)), (1, .int (0 : Int32)), (2, .ref (q 0))]) C dX1_sum_3 rfl (by decide) [1, 2, 0] rfl ?_
  refine x_aload_n C dX1_sum_4 rfl 2 rfl ?_
  refine x_alen (n := 12) (v := (12 : Int32)) C 0 rfl rfl dX1_sum_5 ?_
  refine x_istore_n (lv' := [(0, .ref (q 0)), (1, .int (0 : Int32)), (2, .ref (q 0)), (3, .int (12 : Int32))]) C dX1_sum_6 rfl (by decide) [1, 2, 3, 0] rfl ?_
  refine x_iconst (v := (0 : Int32)) C dX1_sum_7 (by decide) ?_
  refine x_istore (lv' := [(0, .ref (q 0)), (1, .int (0 : Int32)), (2, .ref (q 0)), (3, .int (12 : Int32)), (4, .int (0 : Int32))]) C dX1_sum_8 (by decide) [1, 2, 3, 4, 0] rfl ?_
  have s1 := And.left hok
  have hok := And.right hok
  refine lp_s_sum12_10 C hq m h (12 : Int32) 400 (((0 : Int32), (0 : Int32))) s1 (fun z2 hz2 => ?_)
  have hf := hf.trans (g_let_eq hz2.symm)
  have hok := g_let_p hz2.symm hok
  refine x_iload_n C dX1_sum_33 rfl 1 rfl ?_
  exact g_iret C hr rfl dX1_sum_34 hf.symm rfl rfl
def shSS : List gC := [.inr (.inl (1, [.inl 1, .inl 2, .inl 3, .inl 4, .inl 5, .inl 6, .inl 7, .inl 8, .inl 9, .inl 10, .inl 11, .inl 12, .inl 13, .inl 14, .inl 15, .inr (some false), .inr (some false)])), .inl 40, .inl 40, .inl 40, .inl 40, .inl 40, .inl 96, .inl 12, .inl 12, .inl 12, .inl 12, .inl 12, .inl 5, .inl 5, .inl 5, .inl 2, .inr (.inl (1, [.inl 17, .inl 18, .inl 19, .inl 20, .inl 21, .inl 22, .inl 23, .inl 24, .inl 25, .inl 26, .inl 27, .inl 28, .inl 29, .inl 30, .inl 31, .inr (some false), .inr (some false)])), .inl 40, .inl 40, .inl 40, .inl 40, .inl 40, .inl 96, .inl 12, .inl 12, .inl 12, .inl 12, .inl 12, .inl 5, .inl 5, .inl 5, .inl 2]
set_option maxRecDepth 20000 in
theorem gs_SS_c12_23_7 : gSub shSS shc12 [23, 7] := ⟨by decide, rfl⟩
set_option maxRecDepth 20000 in
theorem gs_SS_c12_24_8 : gSub shSS shc12 [24, 8] := ⟨by decide, rfl⟩
set_option maxRecDepth 20000 in
theorem gs_SS_c12_25_9 : gSub shSS shc12 [25, 9] := ⟨by decide, rfl⟩
set_option maxRecDepth 20000 in
theorem gs_SS_c12_26_10 : gSub shSS shc12 [26, 10] := ⟨by decide, rfl⟩
set_option maxRecDepth 20000 in
theorem gs_SS_c12_27_11 : gSub shSS shc12 [27, 11] := ⟨by decide, rfl⟩
set_option maxRecDepth 20000 in
theorem gs_SS_c2_31_15 : gSub shSS shc2 [31, 15] := ⟨by decide, rfl⟩
set_option maxRecDepth 20000 in
theorem gs_SS_c40_17_1 : gSub shSS shc40 [17, 1] := ⟨by decide, rfl⟩
set_option maxRecDepth 20000 in
theorem gs_SS_c40_18_2 : gSub shSS shc40 [18, 2] := ⟨by decide, rfl⟩
set_option maxRecDepth 20000 in
theorem gs_SS_c40_19_3 : gSub shSS shc40 [19, 3] := ⟨by decide, rfl⟩
set_option maxRecDepth 20000 in
theorem gs_SS_c40_20_4 : gSub shSS shc40 [20, 4] := ⟨by decide, rfl⟩
set_option maxRecDepth 20000 in
theorem gs_SS_c40_21_5 : gSub shSS shc40 [21, 5] := ⟨by decide, rfl⟩
set_option maxRecDepth 20000 in
theorem gs_SS_c5_28_12 : gSub shSS shc5 [28, 12] := ⟨by decide, rfl⟩
set_option maxRecDepth 20000 in
theorem gs_SS_c5_29_13 : gSub shSS shc5 [29, 13] := ⟨by decide, rfl⟩
set_option maxRecDepth 20000 in
theorem gs_SS_c5_30_14 : gSub shSS shc5 [30, 14] := ⟨by decide, rfl⟩
set_option maxRecDepth 20000 in
theorem gs_SS_c96_22_6 : gSub shSS shc96 [22, 6] := ⟨by decide, rfl⟩
set_option maxRecDepth 20000 in
theorem in_X1_becomeLike_1 : ∀ w ∈ u_ws RX1 TX1 17, w ∈ wsX1_becomeLike := by decide +kernel
set_option maxRecDepth 20000 in
theorem k_X1_becomeLike_15 : Cond.fieldLink RX1 15 "HintedPages$Store" "hintOfPage" "[I" ∈ wsX1_becomeLike := by decide +kernel
set_option maxRecDepth 20000 in
theorem k_X1_becomeLike_18 : Cond.fieldLink RX1 18 "HintedPages$Store" "writesOfPage" "[I" ∈ wsX1_becomeLike := by decide +kernel
set_option maxRecDepth 20000 in
theorem k_X1_becomeLike_21 : Cond.fieldLink RX1 21 "HintedPages$Store" "copiesOfPage" "[I" ∈ wsX1_becomeLike := by decide +kernel
set_option maxRecDepth 20000 in
theorem k_X1_becomeLike_24 : Cond.fieldLink RX1 24 "HintedPages$Store" "copiesSinceWrite" "[I" ∈ wsX1_becomeLike := by decide +kernel
set_option maxRecDepth 20000 in
theorem k_X1_becomeLike_27 : Cond.fieldLink RX1 27 "HintedPages$Store" "pageAt" "[I" ∈ wsX1_becomeLike := by decide +kernel
set_option maxRecDepth 20000 in
theorem k_X1_becomeLike_30 : Cond.fieldLink RX1 30 "HintedPages$Store" "streamOfBlock" "[I" ∈ wsX1_becomeLike := by decide +kernel
set_option maxRecDepth 20000 in
theorem k_X1_becomeLike_33 : Cond.fieldLink RX1 33 "HintedPages$Store" "programmedOfBlock" "[I" ∈ wsX1_becomeLike := by decide +kernel
set_option maxRecDepth 20000 in
theorem k_X1_becomeLike_36 : Cond.fieldLink RX1 36 "HintedPages$Store" "validOfBlock" "[I" ∈ wsX1_becomeLike := by decide +kernel
set_option maxRecDepth 20000 in
theorem k_X1_becomeLike_39 : Cond.fieldLink RX1 39 "HintedPages$Store" "erasuresOfBlock" "[I" ∈ wsX1_becomeLike := by decide +kernel
set_option maxRecDepth 20000 in
theorem k_X1_becomeLike_42 : Cond.fieldLink RX1 42 "HintedPages$Store" "closingOfBlock" "[I" ∈ wsX1_becomeLike := by decide +kernel
set_option maxRecDepth 20000 in
theorem k_X1_becomeLike_45 : Cond.fieldLink RX1 45 "HintedPages$Store" "openOfStream" "[I" ∈ wsX1_becomeLike := by decide +kernel
set_option maxRecDepth 20000 in
theorem k_X1_becomeLike_48 : Cond.fieldLink RX1 48 "HintedPages$Store" "programmedOfStream" "[I" ∈ wsX1_becomeLike := by decide +kernel
set_option maxRecDepth 20000 in
theorem k_X1_becomeLike_51 : Cond.fieldLink RX1 51 "HintedPages$Store" "copiesOfStream" "[I" ∈ wsX1_becomeLike := by decide +kernel
set_option maxRecDepth 20000 in
theorem k_X1_becomeLike_54 : Cond.fieldLink RX1 54 "HintedPages$Store" "settings" "[I" ∈ wsX1_becomeLike := by decide +kernel
set_option maxRecDepth 20000 in
theorem k_X1_becomeLike_57 : Cond.fieldLink RX1 57 "HintedPages$Store" "freeBlocks" "I" ∈ wsX1_becomeLike := by decide +kernel
set_option maxRecDepth 20000 in
theorem k_X1_becomeLike_61 : Cond.fieldLink RX1 61 "HintedPages$Store" "closings" "I" ∈ wsX1_becomeLike := by decide +kernel
set_option maxRecDepth 20000 in
theorem k_X1_becomeLike_9 : Cond.fieldLink RX1 9 "HintedPages$Store" "placeOfPage" "[I" ∈ wsX1_becomeLike := by decide +kernel
abbrev rm_s_becomeLike : Room := { frames := 2, cells := 0, slots := 0, locals := 61 }
noncomputable def f_s_becomeLike (m : gM) : gM := g_let (f_s_copyRow40 (g_sel [17, 1] m)) (fun z2 : gM => g_let (g_mrg [17, 1] m z2) (fun z3 : gM => g_let (f_s_copyRow40 (g_sel [18, 2] z3)) (fun z5 : gM => g_let (g_mrg [18, 2] z3 z5) (fun z6 : gM => g_let (f_s_copyRow40 (g_sel [19, 3] z6)) (fun z8 : gM => g_let (g_mrg [19, 3] z6 z8) (fun z9 : gM => g_let (f_s_copyRow40 (g_sel [20, 4] z9)) (fun z11 : gM => g_let (g_mrg [20, 4] z9 z11) (fun z12 : gM => g_let (f_s_copyRow40 (g_sel [21, 5] z12)) (fun z14 : gM => g_let (g_mrg [21, 5] z12 z14) (fun z15 : gM => g_let (f_s_copyRow96 (g_sel [22, 6] z15)) (fun z17 : gM => g_let (g_mrg [22, 6] z15 z17) (fun z18 : gM => g_let (f_s_copyRow12 (g_sel [23, 7] z18)) (fun z20 : gM => g_let (g_mrg [23, 7] z18 z20) (fun z21 : gM => g_let (f_s_copyRow12 (g_sel [24, 8] z21)) (fun z23 : gM => g_let (g_mrg [24, 8] z21 z23) (fun z24 : gM => g_let (f_s_copyRow12 (g_sel [25, 9] z24)) (fun z26 : gM => g_let (g_mrg [25, 9] z24 z26) (fun z27 : gM => g_let (f_s_copyRow12 (g_sel [26, 10] z27)) (fun z29 : gM => g_let (g_mrg [26, 10] z27 z29) (fun z30 : gM => g_let (f_s_copyRow12 (g_sel [27, 11] z30)) (fun z32 : gM => g_let (g_mrg [27, 11] z30 z32) (fun z33 : gM => g_let (f_s_copyRow5 (g_sel [28, 12] z33)) (fun z35 : gM => g_let (g_mrg [28, 12] z33 z35) (fun z36 : gM => g_let (f_s_copyRow5 (g_sel [29, 13] z36)) (fun z38 : gM => g_let (g_mrg [29, 13] z36 z38) (fun z39 : gM => g_let (f_s_copyRow5 (g_sel [30, 14] z39)) (fun z41 : gM => g_let (g_mrg [30, 14] z39 z41) (fun z42 : gM => g_let (f_s_copyRow2 (g_sel [31, 15] z42)) (fun z44 : gM => g_let (g_mrg [31, 15] z42 z44) (fun z45 : gM => g_let (g_set z45 0 (upd (z45 0) 15 (z45 16 15))) (fun z46 : gM => g_let (g_set z46 0 (upd (z46 0) 16 (z46 16 16))) (fun z47 : gM => z47))))))))))))))))))))))))))))))))
noncomputable def o_s_becomeLike (m : gM) : Prop := (o_s_copyRow40 (g_sel [17, 1] m)) ∧ (g_let (f_s_copyRow40 (g_sel [17, 1] m)) (fun z2 : gM => g_let (g_mrg [17, 1] m z2) (fun z3 : gM => (o_s_copyRow40 (g_sel [18, 2] z3)) ∧ (g_let (f_s_copyRow40 (g_sel [18, 2] z3)) (fun z5 : gM => g_let (g_mrg [18, 2] z3 z5) (fun z6 : gM => (o_s_copyRow40 (g_sel [19, 3] z6)) ∧ (g_let (f_s_copyRow40 (g_sel [19, 3] z6)) (fun z8 : gM => g_let (g_mrg [19, 3] z6 z8) (fun z9 : gM => (o_s_copyRow40 (g_sel [20, 4] z9)) ∧ (g_let (f_s_copyRow40 (g_sel [20, 4] z9)) (fun z11 : gM => g_let (g_mrg [20, 4] z9 z11) (fun z12 : gM => (o_s_copyRow40 (g_sel [21, 5] z12)) ∧ (g_let (f_s_copyRow40 (g_sel [21, 5] z12)) (fun z14 : gM => g_let (g_mrg [21, 5] z12 z14) (fun z15 : gM => (o_s_copyRow96 (g_sel [22, 6] z15)) ∧ (g_let (f_s_copyRow96 (g_sel [22, 6] z15)) (fun z17 : gM => g_let (g_mrg [22, 6] z15 z17) (fun z18 : gM => (o_s_copyRow12 (g_sel [23, 7] z18)) ∧ (g_let (f_s_copyRow12 (g_sel [23, 7] z18)) (fun z20 : gM => g_let (g_mrg [23, 7] z18 z20) (fun z21 : gM => (o_s_copyRow12 (g_sel [24, 8] z21)) ∧ (g_let (f_s_copyRow12 (g_sel [24, 8] z21)) (fun z23 : gM => g_let (g_mrg [24, 8] z21 z23) (fun z24 : gM => (o_s_copyRow12 (g_sel [25, 9] z24)) ∧ (g_let (f_s_copyRow12 (g_sel [25, 9] z24)) (fun z26 : gM => g_let (g_mrg [25, 9] z24 z26) (fun z27 : gM => (o_s_copyRow12 (g_sel [26, 10] z27)) ∧ (g_let (f_s_copyRow12 (g_sel [26, 10] z27)) (fun z29 : gM => g_let (g_mrg [26, 10] z27 z29) (fun z30 : gM => (o_s_copyRow12 (g_sel [27, 11] z30)) ∧ (g_let (f_s_copyRow12 (g_sel [27, 11] z30)) (fun z32 : gM => g_let (g_mrg [27, 11] z30 z32) (fun z33 : gM => (o_s_copyRow5 (g_sel [28, 12] z33)) ∧ (g_let (f_s_copyRow5 (g_sel [28, 12] z33)) (fun z35 : gM => g_let (g_mrg [28, 12] z33 z35) (fun z36 : gM => (o_s_copyRow5 (g_sel [29, 13] z36)) ∧ (g_let (f_s_copyRow5 (g_sel [29, 13] z36)) (fun z38 : gM => g_let (g_mrg [29, 13] z36 z38) (fun z39 : gM => (o_s_copyRow5 (g_sel [30, 14] z39)) ∧ (g_let (f_s_copyRow5 (g_sel [30, 14] z39)) (fun z41 : gM => g_let (g_mrg [30, 14] z39 z41) (fun z42 : gM => (o_s_copyRow2 (g_sel [31, 15] z42)) ∧ (g_let (f_s_copyRow2 (g_sel [31, 15] z42)) (fun z44 : gM => g_let (g_mrg [31, 15] z42 z44) (fun z45 : gM => g_let (g_set z45 0 (upd (z45 0) 15 (z45 16 15))) (fun z46 : gM => g_let (g_set z46 0 (upd (z46 0) 16 (z46 16 16))) (fun z47 : gM => True)))))))))))))))))))))))))))))))))))))))))))))))
set_option maxRecDepth 100000 in
set_option maxHeartbeats 4000000 in
theorem c_s_becomeLike (l : Launch) (G : gG) (q : Nat → Nat) (m : gM) (h : gN) (hok : o_s_becomeLike m) : gMv l yX1_becomeLike wsX1_becomeLike rm_s_becomeLike G shSS q m h [.ref (q 0), .ref (q 16)] (f_s_becomeLike m) h := by
  intro sz
  refine g_met (cc := cX1_becomeLike) (maxL := 2) (ret := none) (own := RX1) (Qc := fun sz => gQv G shSS q (f_s_becomeLike m) h sz) (by decide) rfl rfl (Nat.le_of_ble_eq_true rfl) (fun p e s m9 below meth c C hq hr => ?_)
  refine x_lv (lv' := [(0, .ref (q 0)), (1, .ref (q 16))]) [0, 1] rfl ?_
  have hf := f_s_becomeLike.eq_1 m
  have hok := Eq.mp (o_s_becomeLike.eq_1 m) hok
  refine x_aload_n C dX1_becomeLike_0 rfl 1 rfl ?_
  refine x_get (v := .ref (q 17)) C in_X1_becomeLike_1 16 rfl rfl 0 (by decide) k_X1_becomeLike_9 rfl rfl dX1_becomeLike_1 ?_
  refine x_aload_n C dX1_becomeLike_4 rfl 0 rfl ?_
  refine x_get (v := .ref (q 1)) C in_X1_becomeLike_1 0 rfl rfl 0 (by decide) k_X1_becomeLike_9 rfl rfl dX1_becomeLike_5 ?_
  have s1 := And.left hok
  have hok := And.right hok
  obtain ⟨z2, hz2⟩ : ∃ y9 : gM, y9 = f_s_copyRow40 (g_sel [17, 1] m) := ⟨_, rfl⟩
  have hf := hf.trans (g_let_eq hz2)
  have hok := g_let_p hz2 hok
  have hmz2 : gMv l yX1_copyRow wsX1_copyRow rm_s_copyRow40 G shc40 (g_sel [17, 1] q) (g_sel [17, 1] m) (g_sel [17, 1] h) [.ref ((g_sel [17, 1] q) 0), .ref ((g_sel [17, 1] q) 1)] z2 (g_sel [17, 1] h) := by rw [hz2]; exact c_s_copyRow40 l G (g_sel [17, 1] q) (g_sel [17, 1] m) (g_sel [17, 1] h) s1
  refine x_callSv (n := 2) C hq (gFr_sub gs_SS_c40_17_1) (hmz2) (va_cwS 2 C.2.2.2.2.2.1 gX1_becomeLike_X1_copyRow rfl rfl rfl (by decide +kernel) ⟨Nat.le_of_ble_eq_true rfl, Nat.le_of_ble_eq_true rfl⟩) rfl rfl (Nat.le_of_ble_eq_true rfl) dX1_becomeLike_8 (Nat.zero_le _) (Nat.zero_le _) ?_
  obtain ⟨z3, hz3⟩ : ∃ y9 : gM, y9 = g_mrg [17, 1] m z2 := ⟨_, rfl⟩
  have hf := hf.trans (g_let_eq hz3)
  have hok := g_let_p hz3 hok
  refine x_mu hz3 (g_mrg_id gs_SS_c40_17_1.1) ?_
  refine x_aload_n C dX1_becomeLike_11 rfl 1 rfl ?_
  refine x_get (v := .ref (q 18)) C in_X1_becomeLike_1 16 rfl rfl 1 (by decide) k_X1_becomeLike_15 rfl rfl dX1_becomeLike_12 ?_
  refine x_aload_n C dX1_becomeLike_15 rfl 0 rfl ?_
  refine x_get (v := .ref (q 2)) C in_X1_becomeLike_1 0 rfl rfl 1 (by decide) k_X1_becomeLike_15 rfl rfl dX1_becomeLike_16 ?_
  have s4 := And.left hok
  have hok := And.right hok
  obtain ⟨z5, hz5⟩ : ∃ y9 : gM, y9 = f_s_copyRow40 (g_sel [18, 2] z3) := ⟨_, rfl⟩
  have hf := hf.trans (g_let_eq hz5)
  have hok := g_let_p hz5 hok
  have hmz5 : gMv l yX1_copyRow wsX1_copyRow rm_s_copyRow40 G shc40 (g_sel [18, 2] q) (g_sel [18, 2] z3) (g_sel [18, 2] h) [.ref ((g_sel [18, 2] q) 0), .ref ((g_sel [18, 2] q) 1)] z5 (g_sel [18, 2] h) := by rw [hz5]; exact c_s_copyRow40 l G (g_sel [18, 2] q) (g_sel [18, 2] z3) (g_sel [18, 2] h) s4
  refine x_callSv (n := 2) C hq (gFr_sub gs_SS_c40_18_2) (hmz5) (va_cwS 2 C.2.2.2.2.2.1 gX1_becomeLike_X1_copyRow rfl rfl rfl (by decide +kernel) ⟨Nat.le_of_ble_eq_true rfl, Nat.le_of_ble_eq_true rfl⟩) rfl rfl (Nat.le_of_ble_eq_true rfl) dX1_becomeLike_19 (Nat.zero_le _) (Nat.zero_le _) ?_
  obtain ⟨z6, hz6⟩ : ∃ y9 : gM, y9 = g_mrg [18, 2] z3 z5 := ⟨_, rfl⟩
  have hf := hf.trans (g_let_eq hz6)
  have hok := g_let_p hz6 hok
  refine x_mu hz6 (g_mrg_id gs_SS_c40_18_2.1) ?_
  refine x_aload_n C dX1_becomeLike_22 rfl 1 rfl ?_
  refine x_get (v := .ref (q 19)) C in_X1_becomeLike_1 16 rfl rfl 2 (by decide) k_X1_becomeLike_18 rfl rfl dX1_becomeLike_23 ?_
  refine x_aload_n C dX1_becomeLike_26 rfl 0 rfl ?_
  refine x_get (v := .ref (q 3)) C in_X1_becomeLike_1 0 rfl rfl 2 (by decide) k_X1_becomeLike_18 rfl rfl dX1_becomeLike_27 ?_
  have s7 := And.left hok
  have hok := And.right hok
  obtain ⟨z8, hz8⟩ : ∃ y9 : gM, y9 = f_s_copyRow40 (g_sel [19, 3] z6) := ⟨_, rfl⟩
  have hf := hf.trans (g_let_eq hz8)
  have hok := g_let_p hz8 hok
  have hmz8 : gMv l yX1_copyRow wsX1_copyRow rm_s_copyRow40 G shc40 (g_sel [19, 3] q) (g_sel [19, 3] z6) (g_sel [19, 3] h) [.ref ((g_sel [19, 3] q) 0), .ref ((g_sel [19, 3] q) 1)] z8 (g_sel [19, 3] h) := by rw [hz8]; exact c_s_copyRow40 l G (g_sel [19, 3] q) (g_sel [19, 3] z6) (g_sel [19, 3] h) s7
  refine x_callSv (n := 2) C hq (gFr_sub gs_SS_c40_19_3) (hmz8) (va_cwS 2 C.2.2.2.2.2.1 gX1_becomeLike_X1_copyRow rfl rfl rfl (by decide +kernel) ⟨Nat.le_of_ble_eq_true rfl, Nat.le_of_ble_eq_true rfl⟩) rfl rfl (Nat.le_of_ble_eq_true rfl) dX1_becomeLike_30 (Nat.zero_le _) (Nat.zero_le _) ?_
  obtain ⟨z9, hz9⟩ : ∃ y9 : gM, y9 = g_mrg [19, 3] z6 z8 := ⟨_, rfl⟩
  have hf := hf.trans (g_let_eq hz9)
  have hok := g_let_p hz9 hok
  refine x_mu hz9 (g_mrg_id gs_SS_c40_19_3.1) ?_
  refine x_aload_n C dX1_becomeLike_33 rfl 1 rfl ?_
  refine x_get (v := .ref (q 20)) C in_X1_becomeLike_1 16 rfl rfl 3 (by decide) k_X1_becomeLike_21 rfl rfl dX1_becomeLike_34 ?_
  refine x_aload_n C dX1_becomeLike_37 rfl 0 rfl ?_
  refine x_get (v := .ref (q 4)) C in_X1_becomeLike_1 0 rfl rfl 3 (by decide) k_X1_becomeLike_21 rfl rfl dX1_becomeLike_38 ?_
  have s10 := And.left hok
  have hok := And.right hok
  obtain ⟨z11, hz11⟩ : ∃ y9 : gM, y9 = f_s_copyRow40 (g_sel [20, 4] z9) := ⟨_, rfl⟩
  have hf := hf.trans (g_let_eq hz11)
  have hok := g_let_p hz11 hok
  have hmz11 : gMv l yX1_copyRow wsX1_copyRow rm_s_copyRow40 G shc40 (g_sel [20, 4] q) (g_sel [20, 4] z9) (g_sel [20, 4] h) [.ref ((g_sel [20, 4] q) 0), .ref ((g_sel [20, 4] q) 1)] z11 (g_sel [20, 4] h) := by rw [hz11]; exact c_s_copyRow40 l G (g_sel [20, 4] q) (g_sel [20, 4] z9) (g_sel [20, 4] h) s10
  refine x_callSv (n := 2) C hq (gFr_sub gs_SS_c40_20_4) (hmz11) (va_cwS 2 C.2.2.2.2.2.1 gX1_becomeLike_X1_copyRow rfl rfl rfl (by decide +kernel) ⟨Nat.le_of_ble_eq_true rfl, Nat.le_of_ble_eq_true rfl⟩) rfl rfl (Nat.le_of_ble_eq_true rfl) dX1_becomeLike_41 (Nat.zero_le _) (Nat.zero_le _) ?_
  obtain ⟨z12, hz12⟩ : ∃ y9 : gM, y9 = g_mrg [20, 4] z9 z11 := ⟨_, rfl⟩
  have hf := hf.trans (g_let_eq hz12)
  have hok := g_let_p hz12 hok
  refine x_mu hz12 (g_mrg_id gs_SS_c40_20_4.1) ?_
  refine x_aload_n C dX1_becomeLike_44 rfl 1 rfl ?_
  refine x_get (v := .ref (q 21)) C in_X1_becomeLike_1 16 rfl rfl 4 (by decide) k_X1_becomeLike_24 rfl rfl dX1_becomeLike_45 ?_
  refine x_aload_n C dX1_becomeLike_48 rfl 0 rfl ?_
  refine x_get (v := .ref (q 5)) C in_X1_becomeLike_1 0 rfl rfl 4 (by decide) k_X1_becomeLike_24 rfl rfl dX1_becomeLike_49 ?_
  have s13 := And.left hok
  have hok := And.right hok
  obtain ⟨z14, hz14⟩ : ∃ y9 : gM, y9 = f_s_copyRow40 (g_sel [21, 5] z12) := ⟨_, rfl⟩
  have hf := hf.trans (g_let_eq hz14)
  have hok := g_let_p hz14 hok
  have hmz14 : gMv l yX1_copyRow wsX1_copyRow rm_s_copyRow40 G shc40 (g_sel [21, 5] q) (g_sel [21, 5] z12) (g_sel [21, 5] h) [.ref ((g_sel [21, 5] q) 0), .ref ((g_sel [21, 5] q) 1)] z14 (g_sel [21, 5] h) := by rw [hz14]; exact c_s_copyRow40 l G (g_sel [21, 5] q) (g_sel [21, 5] z12) (g_sel [21, 5] h) s13
  refine x_callSv (n := 2) C hq (gFr_sub gs_SS_c40_21_5) (hmz14) (va_cwS 2 C.2.2.2.2.2.1 gX1_becomeLike_X1_copyRow rfl rfl rfl (by decide +kernel) ⟨Nat.le_of_ble_eq_true rfl, Nat.le_of_ble_eq_true rfl⟩) rfl rfl (Nat.le_of_ble_eq_true rfl) dX1_becomeLike_52 (Nat.zero_le _) (Nat.zero_le _) ?_
  obtain ⟨z15, hz15⟩ : ∃ y9 : gM, y9 = g_mrg [21, 5] z12 z14 := ⟨_, rfl⟩
  have hf := hf.trans (g_let_eq hz15)
  have hok := g_let_p hz15 hok
  refine x_mu hz15 (g_mrg_id gs_SS_c40_21_5.1) ?_
  refine x_aload_n C dX1_becomeLike_55 rfl 1 rfl ?_
  refine x_get (v := .ref (q 22)) C in_X1_becomeLike_1 16 rfl rfl 5 (by decide) k_X1_becomeLike_27 rfl rfl dX1_becomeLike_56 ?_
  refine x_aload_n C dX1_becomeLike_59 rfl 0 rfl ?_
  refine x_get (v := .ref (q 6)) C in_X1_becomeLike_1 0 rfl rfl 5 (by decide) k_X1_becomeLike_27 rfl rfl dX1_becomeLike_60 ?_
  have s16 := And.left hok
  have hok := And.right hok
  obtain ⟨z17, hz17⟩ : ∃ y9 : gM, y9 = f_s_copyRow96 (g_sel [22, 6] z15) := ⟨_, rfl⟩
  have hf := hf.trans (g_let_eq hz17)
  have hok := g_let_p hz17 hok
  have hmz17 : gMv l yX1_copyRow wsX1_copyRow rm_s_copyRow96 G shc96 (g_sel [22, 6] q) (g_sel [22, 6] z15) (g_sel [22, 6] h) [.ref ((g_sel [22, 6] q) 0), .ref ((g_sel [22, 6] q) 1)] z17 (g_sel [22, 6] h) := by rw [hz17]; exact c_s_copyRow96 l G (g_sel [22, 6] q) (g_sel [22, 6] z15) (g_sel [22, 6] h) s16
  refine x_callSv (n := 2) C hq (gFr_sub gs_SS_c96_22_6) (hmz17) (va_cwS 2 C.2.2.2.2.2.1 gX1_becomeLike_X1_copyRow rfl rfl rfl (by decide +kernel) ⟨Nat.le_of_ble_eq_true rfl, Nat.le_of_ble_eq_true rfl⟩) rfl rfl (Nat.le_of_ble_eq_true rfl) dX1_becomeLike_63 (Nat.zero_le _) (Nat.zero_le _) ?_
  obtain ⟨z18, hz18⟩ : ∃ y9 : gM, y9 = g_mrg [22, 6] z15 z17 := ⟨_, rfl⟩
  have hf := hf.trans (g_let_eq hz18)
  have hok := g_let_p hz18 hok
  refine x_mu hz18 (g_mrg_id gs_SS_c96_22_6.1) ?_
  refine x_aload_n C dX1_becomeLike_66 rfl 1 rfl ?_
  refine x_get (v := .ref (q 23)) C in_X1_becomeLike_1 16 rfl rfl 6 (by decide) k_X1_becomeLike_30 rfl rfl dX1_becomeLike_67 ?_
  refine x_aload_n C dX1_becomeLike_70 rfl 0 rfl ?_
  refine x_get (v := .ref (q 7)) C in_X1_becomeLike_1 0 rfl rfl 6 (by decide) k_X1_becomeLike_30 rfl rfl dX1_becomeLike_71 ?_
  have s19 := And.left hok
  have hok := And.right hok
  obtain ⟨z20, hz20⟩ : ∃ y9 : gM, y9 = f_s_copyRow12 (g_sel [23, 7] z18) := ⟨_, rfl⟩
  have hf := hf.trans (g_let_eq hz20)
  have hok := g_let_p hz20 hok
  have hmz20 : gMv l yX1_copyRow wsX1_copyRow rm_s_copyRow12 G shc12 (g_sel [23, 7] q) (g_sel [23, 7] z18) (g_sel [23, 7] h) [.ref ((g_sel [23, 7] q) 0), .ref ((g_sel [23, 7] q) 1)] z20 (g_sel [23, 7] h) := by rw [hz20]; exact c_s_copyRow12 l G (g_sel [23, 7] q) (g_sel [23, 7] z18) (g_sel [23, 7] h) s19
  refine x_callSv (n := 2) C hq (gFr_sub gs_SS_c12_23_7) (hmz20) (va_cwS 2 C.2.2.2.2.2.1 gX1_becomeLike_X1_copyRow rfl rfl rfl (by decide +kernel) ⟨Nat.le_of_ble_eq_true rfl, Nat.le_of_ble_eq_true rfl⟩) rfl rfl (Nat.le_of_ble_eq_true rfl) dX1_becomeLike_74 (Nat.zero_le _) (Nat.zero_le _) ?_
  obtain ⟨z21, hz21⟩ : ∃ y9 : gM, y9 = g_mrg [23, 7] z18 z20 := ⟨_, rfl⟩
  have hf := hf.trans (g_let_eq hz21)
  have hok := g_let_p hz21 hok
  refine x_mu hz21 (g_mrg_id gs_SS_c12_23_7.1) ?_
  refine x_aload_n C dX1_becomeLike_77 rfl 1 rfl ?_
  refine x_get (v := .ref (q 24)) C in_X1_becomeLike_1 16 rfl rfl 7 (by decide) k_X1_becomeLike_33 rfl rfl dX1_becomeLike_78 ?_
  refine x_aload_n C dX1_becomeLike_81 rfl 0 rfl ?_
  refine x_get (v := .ref (q 8)) C in_X1_becomeLike_1 0 rfl rfl 7 (by decide) k_X1_becomeLike_33 rfl rfl dX1_becomeLike_82 ?_
  have s22 := And.left hok
  have hok := And.right hok
  obtain ⟨z23, hz23⟩ : ∃ y9 : gM, y9 = f_s_copyRow12 (g_sel [24, 8] z21) := ⟨_, rfl⟩
  have hf := hf.trans (g_let_eq hz23)
  have hok := g_let_p hz23 hok
  have hmz23 : gMv l yX1_copyRow wsX1_copyRow rm_s_copyRow12 G shc12 (g_sel [24, 8] q) (g_sel [24, 8] z21) (g_sel [24, 8] h) [.ref ((g_sel [24, 8] q) 0), .ref ((g_sel [24, 8] q) 1)] z23 (g_sel [24, 8] h) := by rw [hz23]; exact c_s_copyRow12 l G (g_sel [24, 8] q) (g_sel [24, 8] z21) (g_sel [24, 8] h) s22
  refine x_callSv (n := 2) C hq (gFr_sub gs_SS_c12_24_8) (hmz23) (va_cwS 2 C.2.2.2.2.2.1 gX1_becomeLike_X1_copyRow rfl rfl rfl (by decide +kernel) ⟨Nat.le_of_ble_eq_true rfl, Nat.le_of_ble_eq_true rfl⟩) rfl rfl (Nat.le_of_ble_eq_true rfl) dX1_becomeLike_85 (Nat.zero_le _) (Nat.zero_le _) ?_
  obtain ⟨z24, hz24⟩ : ∃ y9 : gM, y9 = g_mrg [24, 8] z21 z23 := ⟨_, rfl⟩
  have hf := hf.trans (g_let_eq hz24)
  have hok := g_let_p hz24 hok
  refine x_mu hz24 (g_mrg_id gs_SS_c12_24_8.1) ?_
  refine x_aload_n C dX1_becomeLike_88 rfl 1 rfl ?_
  refine x_get (v := .ref (q 25)) C in_X1_becomeLike_1 16 rfl rfl 8 (by decide) k_X1_becomeLike_36 rfl rfl dX1_becomeLike_89 ?_
  refine x_aload_n C dX1_becomeLike_92 rfl 0 rfl ?_
  refine x_get (v := .ref (q 9)) C in_X1_becomeLike_1 0 rfl rfl 8 (by decide) k_X1_becomeLike_36 rfl rfl dX1_becomeLike_93 ?_
  have s25 := And.left hok
  have hok := And.right hok
  obtain ⟨z26, hz26⟩ : ∃ y9 : gM, y9 = f_s_copyRow12 (g_sel [25, 9] z24) := ⟨_, rfl⟩
  have hf := hf.trans (g_let_eq hz26)
  have hok := g_let_p hz26 hok
  have hmz26 : gMv l yX1_copyRow wsX1_copyRow rm_s_copyRow12 G shc12 (g_sel [25, 9] q) (g_sel [25, 9] z24) (g_sel [25, 9] h) [.ref ((g_sel [25, 9] q) 0), .ref ((g_sel [25, 9] q) 1)] z26 (g_sel [25, 9] h) := by rw [hz26]; exact c_s_copyRow12 l G (g_sel [25, 9] q) (g_sel [25, 9] z24) (g_sel [25, 9] h) s25
  refine x_callSv (n := 2) C hq (gFr_sub gs_SS_c12_25_9) (hmz26) (va_cwS 2 C.2.2.2.2.2.1 gX1_becomeLike_X1_copyRow rfl rfl rfl (by decide +kernel) ⟨Nat.le_of_ble_eq_true rfl, Nat.le_of_ble_eq_true rfl⟩) rfl rfl (Nat.le_of_ble_eq_true rfl) dX1_becomeLike_96 (Nat.zero_le _) (Nat.zero_le _) ?_
  obtain ⟨z27, hz27⟩ : ∃ y9 : gM, y9 = g_mrg [25, 9] z24 z26 := ⟨_, rfl⟩
  have hf := hf.trans (g_let_eq hz27)
  have hok := g_let_p hz27 hok
  refine x_mu hz27 (g_mrg_id gs_SS_c12_25_9.1) ?_
  refine x_aload_n C dX1_becomeLike_99 rfl 1 rfl ?_
  refine x_get (v := .ref (q 26)) C in_X1_becomeLike_1 16 rfl rfl 9 (by decide) k_X1_becomeLike_39 rfl rfl dX1_becomeLike_100 ?_
  refine x_aload_n C dX1_becomeLike_103 rfl 0 rfl ?_
  refine x_get (v := .ref (q 10)) C in_X1_becomeLike_1 0 rfl rfl 9 (by decide) k_X1_becomeLike_39 rfl rfl dX1_becomeLike_104 ?_
  have s28 := And.left hok
  have hok := And.right hok
  obtain ⟨z29, hz29⟩ : ∃ y9 : gM, y9 = f_s_copyRow12 (g_sel [26, 10] z27) := ⟨_, rfl⟩
  have hf := hf.trans (g_let_eq hz29)
  have hok := g_let_p hz29 hok
  have hmz29 : gMv l yX1_copyRow wsX1_copyRow rm_s_copyRow12 G shc12 (g_sel [26, 10] q) (g_sel [26, 10] z27) (g_sel [26, 10] h) [.ref ((g_sel [26, 10] q) 0), .ref ((g_sel [26, 10] q) 1)] z29 (g_sel [26, 10] h) := by rw [hz29]; exact c_s_copyRow12 l G (g_sel [26, 10] q) (g_sel [26, 10] z27) (g_sel [26, 10] h) s28
  refine x_callSv (n := 2) C hq (gFr_sub gs_SS_c12_26_10) (hmz29) (va_cwS 2 C.2.2.2.2.2.1 gX1_becomeLike_X1_copyRow rfl rfl rfl (by decide +kernel) ⟨Nat.le_of_ble_eq_true rfl, Nat.le_of_ble_eq_true rfl⟩) rfl rfl (Nat.le_of_ble_eq_true rfl) dX1_becomeLike_107 (Nat.zero_le _) (Nat.zero_le _) ?_
  obtain ⟨z30, hz30⟩ : ∃ y9 : gM, y9 = g_mrg [26, 10] z27 z29 := ⟨_, rfl⟩
  have hf := hf.trans (g_let_eq hz30)
  have hok := g_let_p hz30 hok
  refine x_mu hz30 (g_mrg_id gs_SS_c12_26_10.1) ?_
  refine x_aload_n C dX1_becomeLike_110 rfl 1 rfl ?_
  refine x_get (v := .ref (q 27)) C in_X1_becomeLike_1 16 rfl rfl 10 (by decide) k_X1_becomeLike_42 rfl rfl dX1_becomeLike_111 ?_
  refine x_aload_n C dX1_becomeLike_114 rfl 0 rfl ?_
  refine x_get (v := .ref (q 11)) C in_X1_becomeLike_1 0 rfl rfl 10 (by decide) k_X1_becomeLike_42 rfl rfl dX1_becomeLike_115 ?_
  have s31 := And.left hok
  have hok := And.right hok
  obtain ⟨z32, hz32⟩ : ∃ y9 : gM, y9 = f_s_copyRow12 (g_sel [27, 11] z30) := ⟨_, rfl⟩
  have hf := hf.trans (g_let_eq hz32)
  have hok := g_let_p hz32 hok
  have hmz32 : gMv l yX1_copyRow wsX1_copyRow rm_s_copyRow12 G shc12 (g_sel [27, 11] q) (g_sel [27, 11] z30) (g_sel [27, 11] h) [.ref ((g_sel [27, 11] q) 0), .ref ((g_sel [27, 11] q) 1)] z32 (g_sel [27, 11] h) := by rw [hz32]; exact c_s_copyRow12 l G (g_sel [27, 11] q) (g_sel [27, 11] z30) (g_sel [27, 11] h) s31
  refine x_callSv (n := 2) C hq (gFr_sub gs_SS_c12_27_11) (hmz32) (va_cwS 2 C.2.2.2.2.2.1 gX1_becomeLike_X1_copyRow rfl rfl rfl (by decide +kernel) ⟨Nat.le_of_ble_eq_true rfl, Nat.le_of_ble_eq_true rfl⟩) rfl rfl (Nat.le_of_ble_eq_true rfl) dX1_becomeLike_118 (Nat.zero_le _) (Nat.zero_le _) ?_
  obtain ⟨z33, hz33⟩ : ∃ y9 : gM, y9 = g_mrg [27, 11] z30 z32 := ⟨_, rfl⟩
  have hf := hf.trans (g_let_eq hz33)
  have hok := g_let_p hz33 hok
  refine x_mu hz33 (g_mrg_id gs_SS_c12_27_11.1) ?_
  refine x_aload_n C dX1_becomeLike_121 rfl 1 rfl ?_
  refine x_get (v := .ref (q 28)) C in_X1_becomeLike_1 16 rfl rfl 11 (by decide) k_X1_becomeLike_45 rfl rfl dX1_becomeLike_122 ?_
  refine x_aload_n C dX1_becomeLike_125 rfl 0 rfl ?_
  refine x_get (v := .ref (q 12)) C in_X1_becomeLike_1 0 rfl rfl 11 (by decide) k_X1_becomeLike_45 rfl rfl dX1_becomeLike_126 ?_
  have s34 := And.left hok
  have hok := And.right hok
  obtain ⟨z35, hz35⟩ : ∃ y9 : gM, y9 = f_s_copyRow5 (g_sel [28, 12] z33) := ⟨_, rfl⟩
  have hf := hf.trans (g_let_eq hz35)
  have hok := g_let_p hz35 hok
  have hmz35 : gMv l yX1_copyRow wsX1_copyRow rm_s_copyRow5 G shc5 (g_sel [28, 12] q) (g_sel [28, 12] z33) (g_sel [28, 12] h) [.ref ((g_sel [28, 12] q) 0), .ref ((g_sel [28, 12] q) 1)] z35 (g_sel [28, 12] h) := by rw [hz35]; exact c_s_copyRow5 l G (g_sel [28, 12] q) (g_sel [28, 12] z33) (g_sel [28, 12] h) s34
  refine x_callSv (n := 2) C hq (gFr_sub gs_SS_c5_28_12) (hmz35) (va_cwS 2 C.2.2.2.2.2.1 gX1_becomeLike_X1_copyRow rfl rfl rfl (by decide +kernel) ⟨Nat.le_of_ble_eq_true rfl, Nat.le_of_ble_eq_true rfl⟩) rfl rfl (Nat.le_of_ble_eq_true rfl) dX1_becomeLike_129 (Nat.zero_le _) (Nat.zero_le _) ?_
  obtain ⟨z36, hz36⟩ : ∃ y9 : gM, y9 = g_mrg [28, 12] z33 z35 := ⟨_, rfl⟩
  have hf := hf.trans (g_let_eq hz36)
  have hok := g_let_p hz36 hok
  refine x_mu hz36 (g_mrg_id gs_SS_c5_28_12.1) ?_
  refine x_aload_n C dX1_becomeLike_132 rfl 1 rfl ?_
  refine x_get (v := .ref (q 29)) C in_X1_becomeLike_1 16 rfl rfl 12 (by decide) k_X1_becomeLike_48 rfl rfl dX1_becomeLike_133 ?_
  refine x_aload_n C dX1_becomeLike_136 rfl 0 rfl ?_
  refine x_get (v := .ref (q 13)) C in_X1_becomeLike_1 0 rfl rfl 12 (by decide) k_X1_becomeLike_48 rfl rfl dX1_becomeLike_137 ?_
  have s37 := And.left hok
  have hok := And.right hok
  obtain ⟨z38, hz38⟩ : ∃ y9 : gM, y9 = f_s_copyRow5 (g_sel [29, 13] z36) := ⟨_, rfl⟩
  have hf := hf.trans (g_let_eq hz38)
  have hok := g_let_p hz38 hok
  have hmz38 : gMv l yX1_copyRow wsX1_copyRow rm_s_copyRow5 G shc5 (g_sel [29, 13] q) (g_sel [29, 13] z36) (g_sel [29, 13] h) [.ref ((g_sel [29, 13] q) 0), .ref ((g_sel [29, 13] q) 1)] z38 (g_sel [29, 13] h) := by rw [hz38]; exact c_s_copyRow5 l G (g_sel [29, 13] q) (g_sel [29, 13] z36) (g_sel [29, 13] h) s37
  refine x_callSv (n := 2) C hq (gFr_sub gs_SS_c5_29_13) (hmz38) (va_cwS 2 C.2.2.2.2.2.1 gX1_becomeLike_X1_copyRow rfl rfl rfl (by decide +kernel) ⟨Nat.le_of_ble_eq_true rfl, Nat.le_of_ble_eq_true rfl⟩) rfl rfl (Nat.le_of_ble_eq_true rfl) dX1_becomeLike_140 (Nat.zero_le _) (Nat.zero_le _) ?_
  obtain ⟨z39, hz39⟩ : ∃ y9 : gM, y9 = g_mrg [29, 13] z36 z38 := ⟨_, rfl⟩
  have hf := hf.trans (g_let_eq hz39)
  have hok := g_let_p hz39 hok
  refine x_mu hz39 (g_mrg_id gs_SS_c5_29_13.1) ?_
  refine x_aload_n C dX1_becomeLike_143 rfl 1 rfl ?_
  refine x_get (v := .ref (q 30)) C in_X1_becomeLike_1 16 rfl rfl 13 (by decide) k_X1_becomeLike_51 rfl rfl dX1_becomeLike_144 ?_
  refine x_aload_n C dX1_becomeLike_147 rfl 0 rfl ?_
  refine x_get (v := .ref (q 14)) C in_X1_becomeLike_1 0 rfl rfl 13 (by decide) k_X1_becomeLike_51 rfl rfl dX1_becomeLike_148 ?_
  have s40 := And.left hok
  have hok := And.right hok
  obtain ⟨z41, hz41⟩ : ∃ y9 : gM, y9 = f_s_copyRow5 (g_sel [30, 14] z39) := ⟨_, rfl⟩
  have hf := hf.trans (g_let_eq hz41)
  have hok := g_let_p hz41 hok
  have hmz41 : gMv l yX1_copyRow wsX1_copyRow rm_s_copyRow5 G shc5 (g_sel [30, 14] q) (g_sel [30, 14] z39) (g_sel [30, 14] h) [.ref ((g_sel [30, 14] q) 0), .ref ((g_sel [30, 14] q) 1)] z41 (g_sel [30, 14] h) := by rw [hz41]; exact c_s_copyRow5 l G (g_sel [30, 14] q) (g_sel [30, 14] z39) (g_sel [30, 14] h) s40
  refine x_callSv (n := 2) C hq (gFr_sub gs_SS_c5_30_14) (hmz41) (va_cwS 2 C.2.2.2.2.2.1 gX1_becomeLike_X1_copyRow rfl rfl rfl (by decide +kernel) ⟨Nat.le_of_ble_eq_true rfl, Nat.le_of_ble_eq_true rfl⟩) rfl rfl (Nat.le_of_ble_eq_true rfl) dX1_becomeLike_151 (Nat.zero_le _) (Nat.zero_le _) ?_
  obtain ⟨z42, hz42⟩ : ∃ y9 : gM, y9 = g_mrg [30, 14] z39 z41 := ⟨_, rfl⟩
  have hf := hf.trans (g_let_eq hz42)
  have hok := g_let_p hz42 hok
  refine x_mu hz42 (g_mrg_id gs_SS_c5_30_14.1) ?_
  refine x_aload_n C dX1_becomeLike_154 rfl 1 rfl ?_
  refine x_get (v := .ref (q 31)) C in_X1_becomeLike_1 16 rfl rfl 14 (by decide) k_X1_becomeLike_54 rfl rfl dX1_becomeLike_155 ?_
  refine x_aload_n C dX1_becomeLike_158 rfl 0 rfl ?_
  refine x_get (v := .ref (q 15)) C in_X1_becomeLike_1 0 rfl rfl 14 (by decide) k_X1_becomeLike_54 rfl rfl dX1_becomeLike_159 ?_
  have s43 := And.left hok
  have hok := And.right hok
  obtain ⟨z44, hz44⟩ : ∃ y9 : gM, y9 = f_s_copyRow2 (g_sel [31, 15] z42) := ⟨_, rfl⟩
  have hf := hf.trans (g_let_eq hz44)
  have hok := g_let_p hz44 hok
  have hmz44 : gMv l yX1_copyRow wsX1_copyRow rm_s_copyRow2 G shc2 (g_sel [31, 15] q) (g_sel [31, 15] z42) (g_sel [31, 15] h) [.ref ((g_sel [31, 15] q) 0), .ref ((g_sel [31, 15] q) 1)] z44 (g_sel [31, 15] h) := by rw [hz44]; exact c_s_copyRow2 l G (g_sel [31, 15] q) (g_sel [31, 15] z42) (g_sel [31, 15] h) s43
  refine x_callSv (n := 2) C hq (gFr_sub gs_SS_c2_31_15) (hmz44) (va_cwS 2 C.2.2.2.2.2.1 gX1_becomeLike_X1_copyRow rfl rfl rfl (by decide +kernel) ⟨Nat.le_of_ble_eq_true rfl, Nat.le_of_ble_eq_true rfl⟩) rfl rfl (Nat.le_of_ble_eq_true rfl) dX1_becomeLike_162 (Nat.zero_le _) (Nat.zero_le _) ?_
  obtain ⟨z45, hz45⟩ : ∃ y9 : gM, y9 = g_mrg [31, 15] z42 z44 := ⟨_, rfl⟩
  have hf := hf.trans (g_let_eq hz45)
  have hok := g_let_p hz45 hok
  refine x_mu hz45 (g_mrg_id gs_SS_c2_31_15.1) ?_
  refine x_aload_n C dX1_becomeLike_165 rfl 0 rfl ?_
  refine x_aload_n C dX1_becomeLike_166 rfl 1 rfl ?_
  refine x_get (v := .int (z45 16 15)) C in_X1_becomeLike_1 16 rfl rfl 15 (by decide) k_X1_becomeLike_57 rfl rfl dX1_becomeLike_167 ?_
  obtain ⟨z46, hz46⟩ : ∃ y9 : gM, y9 = g_set z45 0 (upd (z45 0) 15 (z45 16 15)) := ⟨_, rfl⟩
  have hf := hf.trans (g_let_eq hz46)
  have hok := g_let_p hz46 hok
  refine x_puti (μ' := z46) (ty := .int) C hq tyX1 tyX1_ok nmX1 in_X1_becomeLike_1 0 rfl rfl 15 (by decide) k_X1_becomeLike_57 rfl (tyX1_ok 15 (by decide)) rfl rfl rfl hz46 dX1_becomeLike_170 ?_
  refine x_aload_n C dX1_becomeLike_173 rfl 0 rfl ?_
  refine x_aload_n C dX1_becomeLike_174 rfl 1 rfl ?_
  refine x_get (v := .int (z46 16 16)) C in_X1_becomeLike_1 16 rfl rfl 16 (by decide) k_X1_becomeLike_61 rfl rfl dX1_becomeLike_175 ?_
  obtain ⟨z47, hz47⟩ : ∃ y9 : gM, y9 = g_set z46 0 (upd (z46 0) 16 (z46 16 16)) := ⟨_, rfl⟩
  have hf := hf.trans (g_let_eq hz47)
  have hok := g_let_p hz47 hok
  refine x_puti (μ' := z47) (ty := .int) C hq tyX1 tyX1_ok nmX1 in_X1_becomeLike_1 0 rfl rfl 16 (by decide) k_X1_becomeLike_61 rfl (tyX1_ok 16 (by decide)) rfl rfl rfl hz47 dX1_becomeLike_178 ?_
  exact g_vret C hr dX1_becomeLike_181 hf.symm rfl
def shS : List gC := [.inr (.inl (1, [.inl 1, .inl 2, .inl 3, .inl 4, .inl 5, .inl 6, .inl 7, .inl 8, .inl 9, .inl 10, .inl 11, .inl 12, .inl 13, .inl 14, .inl 15, .inr (some false), .inr (some false)])), .inl 40, .inl 40, .inl 40, .inl 40, .inl 40, .inl 96, .inl 12, .inl 12, .inl 12, .inl 12, .inl 12, .inl 5, .inl 5, .inl 5, .inl 2]
set_option maxRecDepth 20000 in
theorem in_X1_openBlock_1 : ∀ w ∈ u_ws RX1 TX1 17, w ∈ wsX1_openBlock := by decide +kernel
set_option maxRecDepth 20000 in
theorem k_X1_openBlock_30 : Cond.fieldLink RX1 30 "HintedPages$Store" "streamOfBlock" "[I" ∈ wsX1_openBlock := by decide +kernel
set_option maxRecDepth 20000 in
theorem k_X1_openBlock_39 : Cond.fieldLink RX1 39 "HintedPages$Store" "erasuresOfBlock" "[I" ∈ wsX1_openBlock := by decide +kernel
set_option maxRecDepth 20000 in
theorem k_X1_openBlock_45 : Cond.fieldLink RX1 45 "HintedPages$Store" "openOfStream" "[I" ∈ wsX1_openBlock := by decide +kernel
set_option maxRecDepth 20000 in
theorem k_X1_openBlock_57 : Cond.fieldLink RX1 57 "HintedPages$Store" "freeBlocks" "I" ∈ wsX1_openBlock := by decide +kernel
abbrev rm_s_openBlock : Room := { frames := 0, cells := 0, slots := 0, locals := 0 }
noncomputable def L_s_openBlock_21 (m : gM) (x1 : Int32) (z : Int32 × Int32) : Bool × (Int32 × Int32) := (if (12 : Int32) ≤ z.2 then (false, (z.1, z.2)) else (if (m 7 z.2.toNatClampNeg) = (-1 : Int32) then (if z.1 = (-1 : Int32) then g_let ((z.2 + (1 : Int32))) (fun z6 : Int32 => (true, (z.2, z6))) else (if (m 10 z.1.toNatClampNeg) ≤ (m 10 z.2.toNatClampNeg) then g_let ((z.2 + (1 : Int32))) (fun z10 : Int32 => (true, (z.1, z10))) else g_let ((z.2 + (1 : Int32))) (fun z11 : Int32 => (true, (z.2, z11))))) else g_let ((z.2 + (1 : Int32))) (fun z4 : Int32 => (true, (z.1, z4)))))
noncomputable def K_s_openBlock_21 (m : gM) (x1 : Int32) (z : Int32 × Int32) : Prop := (if (12 : Int32) ≤ z.2 then True else (vp_in z.2 12) ∧ ((if (m 7 z.2.toNatClampNeg) = (-1 : Int32) then (if z.1 = (-1 : Int32) then g_let ((z.2 + (1 : Int32))) (fun z6 : Int32 => True) else (vp_in z.2 12) ∧ ((vp_in z.1 12) ∧ ((if (m 10 z.1.toNatClampNeg) ≤ (m 10 z.2.toNatClampNeg) then g_let ((z.2 + (1 : Int32))) (fun z10 : Int32 => True) else g_let ((z.2 + (1 : Int32))) (fun z11 : Int32 => True))))) else g_let ((z.2 + (1 : Int32))) (fun z4 : Int32 => True))))
set_option maxRecDepth 100000 in
set_option maxHeartbeats 4000000 in
theorem lp_s_openBlock_21 {p : Program} {l : Launch} {e : Env} {s : State} {m9 : MethodId} {args : Array Value} {below : List Frame} {meth : Method} {c : Code} {G : gG} {A : Nat → Prop} {Q : State → Prop} {q : Nat → Nat} (C : xC p s m9 args meth c G A 4 cX1_openBlock RX1 wsX1_openBlock) (hq : gD A q shS.length) (m : gM) (h : gN) (x1 : Int32) : ∀ (n : Nat) (z : Int32 × Int32), rOk (L_s_openBlock_21 m x1) (K_s_openBlock_21 m x1) n z → (∀ z' : Int32 × Int32, run (L_s_openBlock_21 m x1) n z = z' → xJ p l e rm_s_openBlock s m9 args below meth c G A 4 Q 0 0 shS q m h [(0, .ref (q 0)), (1, .int x1), (2, .int z'.1), (3, .int z'.2)] [] 65) → xJ p l e rm_s_openBlock s m9 args below meth c G A 4 Q 0 0 shS q m h [(0, .ref (q 0)), (1, .int x1), (2, .int z.1), (3, .int z.2)] [] 21 := by
  intro n
  induction n with
  | zero =>
    intro z hok _
    exact rOk_0 hok
  | succ n ih =>
    intro z hok K0
    have hnx := rOk_2 hok
    have hok := rOk_1 hok
    have hf := L_s_openBlock_21.eq_1 m x1 z
    have hok := Eq.mp (K_s_openBlock_21.eq_1 m x1 z) hok
    refine x_iload_n C dX1_openBlock_21 rfl 3 rfl ?_
    refine x_bipush (v := (12 : Int32)) C dX1_openBlock_22 (by decide) ?_
    refine x_icmp_ge (tgt := 65) C dX1_openBlock_24 (by decide) (fun c1 => ?_) (fun c1 => ?_)
    · have hf := hf.trans (if_pos c1)
      have hok := g_ip c1 hok
      exact K0 ((z.1, z.2)) (run_f hf)
    · have hf := hf.trans (if_neg c1)
      have hok := g_in c1 hok
      refine x_aload_n C dX1_openBlock_27 rfl 0 rfl ?_
      refine x_get (v := .ref (q 7)) C in_X1_openBlock_1 0 rfl rfl 6 (by decide) k_X1_openBlock_30 rfl rfl dX1_openBlock_28 ?_
      refine x_iload_n C dX1_openBlock_31 rfl 3 rfl ?_
      have s2 := And.left hok
      have hok := And.right hok
      refine x_iald (n := 12) (v := (m 7 z.2.toNatClampNeg)) C 7 rfl s2 rfl dX1_openBlock_32 ?_
      refine x_iconst (v := (-1 : Int32)) C dX1_openBlock_33 (by decide) ?_
      refine x_icmp_ne (tgt := 59) C dX1_openBlock_34 (by decide) (fun c3 => ?_) (fun c3 => ?_)
      · have hf := hf.trans (if_neg c3)
        have hok := g_in c3 hok
        obtain ⟨z4, hz4⟩ : ∃ y9 : Int32, y9 = (z.2 + (1 : Int32)) := ⟨_, rfl⟩
        have hf := hf.trans (g_let_eq hz4)
        have hok := g_let_p hz4 hok
        refine x_iinc (v := z4) (lv' := [(0, .ref (q 0)), (1, .int x1), (2, .int z.1), (3, .int z4)]) C dX1_openBlock_59 3 rfl hz4.symm (by decide) [1, 2, 3, 0] rfl ?_
        refine x_goto (tgt := 21) C dX1_openBlock_62 (by decide) ?_
        exact ih ((z.1, z4)) (rOk_t hnx hf) (fun z' hz => K0 z' ((run_t hf).trans hz))
      · have hf := hf.trans (if_pos c3)
        have hok := g_ip c3 hok
        refine x_iload_n C dX1_openBlock_37 rfl 2 rfl ?_
        refine x_iconst (v := (-1 : Int32)) C dX1_openBlock_38 (by decide) ?_
        refine x_icmp_eq (tgt := 57) C dX1_openBlock_39 (by decide) (fun c5 => ?_) (fun c5 => ?_)
        · have hf := hf.trans (if_pos c5)
          have hok := g_ip c5 hok
          refine x_iload_n C dX1_openBlock_57 rfl 3 rfl ?_
          refine x_istore_n (lv' := [(0, .ref (q 0)), (1, .int x1), (2, .int z.2), (3, .int z.2)]) C dX1_openBlock_58 rfl (by decide) [1, 2, 0, 3] rfl ?_
          obtain ⟨z6, hz6⟩ : ∃ y9 : Int32, y9 = (z.2 + (1 : Int32)) := ⟨_, rfl⟩
          have hf := hf.trans (g_let_eq hz6)
          have hok := g_let_p hz6 hok
          refine x_iinc (v := z6) (lv' := [(0, .ref (q 0)), (1, .int x1), (2, .int z.2), (3, .int z6)]) C dX1_openBlock_59 3 rfl hz6.symm (by decide) [1, 2, 3, 0] rfl ?_
          refine x_goto (tgt := 21) C dX1_openBlock_62 (by decide) ?_
          exact ih ((z.2, z6)) (rOk_t hnx hf) (fun z' hz => K0 z' ((run_t hf).trans hz))
        · have hf := hf.trans (if_neg c5)
          have hok := g_in c5 hok
          refine x_aload_n C dX1_openBlock_42 rfl 0 rfl ?_
          refine x_get (v := .ref (q 10)) C in_X1_openBlock_1 0 rfl rfl 9 (by decide) k_X1_openBlock_39 rfl rfl dX1_openBlock_43 ?_
          refine x_iload_n C dX1_openBlock_46 rfl 3 rfl ?_
          have s7 := And.left hok
          have hok := And.right hok
          refine x_iald (n := 12) (v := (m 10 z.2.toNatClampNeg)) C 10 rfl s7 rfl dX1_openBlock_47 ?_
          refine x_aload_n C dX1_openBlock_48 rfl 0 rfl ?_
          refine x_get (v := .ref (q 10)) C in_X1_openBlock_1 0 rfl rfl 9 (by decide) k_X1_openBlock_39 rfl rfl dX1_openBlock_49 ?_
          refine x_iload_n C dX1_openBlock_52 rfl 2 rfl ?_
          have s8 := And.left hok
          have hok := And.right hok
          refine x_iald (n := 12) (v := (m 10 z.1.toNatClampNeg)) C 10 rfl s8 rfl dX1_openBlock_53 ?_
          refine x_icmp_ge (tgt := 59) C dX1_openBlock_54 (by decide) (fun c9 => ?_) (fun c9 => ?_)
          · have hf := hf.trans (if_pos c9)
            have hok := g_ip c9 hok
            obtain ⟨z10, hz10⟩ : ∃ y9 : Int32, y9 = (z.2 + (1 : Int32)) := ⟨_, rfl⟩
            have hf := hf.trans (g_let_eq hz10)
            have hok := g_let_p hz10 hok
            refine x_iinc (v := z10) (lv' := [(0, .ref (q 0)), (1, .int x1), (2, .int z.1), (3, .int z10)]) C dX1_openBlock_59 3 rfl hz10.symm (by decide) [1, 2, 3, 0] rfl ?_
            refine x_goto (tgt := 21) C dX1_openBlock_62 (by decide) ?_
            exact ih ((z.1, z10)) (rOk_t hnx hf) (fun z' hz => K0 z' ((run_t hf).trans hz))
          · have hf := hf.trans (if_neg c9)
            have hok := g_in c9 hok
            refine x_iload_n C dX1_openBlock_57 rfl 3 rfl ?_
            refine x_istore_n (lv' := [(0, .ref (q 0)), (1, .int x1), (2, .int z.2), (3, .int z.2)]) C dX1_openBlock_58 rfl (by decide) [1, 2, 0, 3] rfl ?_
            obtain ⟨z11, hz11⟩ : ∃ y9 : Int32, y9 = (z.2 + (1 : Int32)) := ⟨_, rfl⟩
            have hf := hf.trans (g_let_eq hz11)
            have hok := g_let_p hz11 hok
            refine x_iinc (v := z11) (lv' := [(0, .ref (q 0)), (1, .int x1), (2, .int z.2), (3, .int z11)]) C dX1_openBlock_59 3 rfl hz11.symm (by decide) [1, 2, 3, 0] rfl ?_
            refine x_goto (tgt := 21) C dX1_openBlock_62 (by decide) ?_
            exact ih ((z.2, z11)) (rOk_t hnx hf) (fun z' hz => K0 z' ((run_t hf).trans hz))
noncomputable def f_s_openBlock (m : gM) (a1 : Int32) : Int32 × gM := (if (m 12 a1.toNatClampNeg) = (-1 : Int32) then g_let (run (L_s_openBlock_21 m a1) 400 (((-1 : Int32), (0 : Int32)))) (fun z4 : Int32 × Int32 => (if z4.1 = (-1 : Int32) then (z4.1, m) else g_let (g_set m 7 (upd (m 7) z4.1.toNatClampNeg a1)) (fun z7 : gM => g_let (g_set z7 12 (upd (z7 12) a1.toNatClampNeg z4.1)) (fun z9 : gM => g_let (g_set z9 0 (upd (z9 0) 15 ((z9 0 15) - (1 : Int32)))) (fun z10 : gM => (z4.1, z10)))))) else ((m 12 a1.toNatClampNeg), m))
noncomputable def o_s_openBlock (m : gM) (a1 : Int32) : Prop := (vp_in a1 5) ∧ ((if (m 12 a1.toNatClampNeg) = (-1 : Int32) then (rOk (L_s_openBlock_21 m a1) (K_s_openBlock_21 m a1) 400 (((-1 : Int32), (0 : Int32)))) ∧ (g_let (run (L_s_openBlock_21 m a1) 400 (((-1 : Int32), (0 : Int32)))) (fun z4 : Int32 × Int32 => (if z4.1 = (-1 : Int32) then True else (vp_in z4.1 12) ∧ (g_let (g_set m 7 (upd (m 7) z4.1.toNatClampNeg a1)) (fun z7 : gM => (vp_in a1 5) ∧ (g_let (g_set z7 12 (upd (z7 12) a1.toNatClampNeg z4.1)) (fun z9 : gM => g_let (g_set z9 0 (upd (z9 0) 15 ((z9 0 15) - (1 : Int32)))) (fun z10 : gM => True)))))))) else (vp_in a1 5) ∧ (True)))
set_option maxRecDepth 100000 in
set_option maxHeartbeats 4000000 in
theorem c_s_openBlock (l : Launch) (G : gG) (q : Nat → Nat) (m : gM) (h : gN) (a1 : Int32) (hok : o_s_openBlock m a1) : gMi l yX1_openBlock wsX1_openBlock rm_s_openBlock G shS q m h [.ref (q 0), .int a1] ((f_s_openBlock m a1).2) h ((f_s_openBlock m a1).1) := by
  intro sz
  refine g_met (cc := cX1_openBlock) (maxL := 4) (ret := (some .int)) (own := RX1) (Qc := fun sz => gQi G shS q ((f_s_openBlock m a1).2) h sz ((f_s_openBlock m a1).1)) (by decide) rfl rfl (Nat.le_of_ble_eq_true rfl) (fun p e s m9 below meth c C hq hr => ?_)
  refine x_lv (lv' := [(0, .ref (q 0)), (1, .int a1)]) [0, 1] rfl ?_
  have hf := f_s_openBlock.eq_1 m a1
  have hok := Eq.mp (o_s_openBlock.eq_1 m a1) hok
  refine x_aload_n C dX1_openBlock_0 rfl 0 rfl ?_
  refine x_get (v := .ref (q 12)) C in_X1_openBlock_1 0 rfl rfl 11 (by decide) k_X1_openBlock_45 rfl rfl dX1_openBlock_1 ?_
  refine x_iload_n C dX1_openBlock_4 rfl 1 rfl ?_
  have s1 := And.left hok
  have hok := And.right hok
  refine x_iald (n := 5) (v := (m 12 a1.toNatClampNeg)) C 12 rfl s1 rfl dX1_openBlock_5 ?_
  refine x_iconst (v := (-1 : Int32)) C dX1_openBlock_6 (by decide) ?_
  refine x_icmp_eq (tgt := 17) C dX1_openBlock_7 (by decide) (fun c2 => ?_) (fun c2 => ?_)
  · have hf := hf.trans (if_pos c2)
    have hok := g_ip c2 hok
    refine x_iconst (v := (-1 : Int32)) C dX1_openBlock_17 (by decide) ?_
    refine x_istore_n (lv' := [(0, .ref (q 0)), (1, .int a1), (2, .int (-1 : Int32))]) C dX1_openBlock_18 rfl (by decide) [1, 2, 0] rfl ?_
    refine x_iconst (v := (0 : Int32)) C dX1_openBlock_19 (by decide) ?_
    refine x_istore_n (lv' := [(0, .ref (q 0)), (1, .int a1), (2, .int (-1 : Int32)), (3, .int (0 : Int32))]) C dX1_openBlock_20 rfl (by decide) [1, 2, 3, 0] rfl ?_
    have s3 := And.left hok
    have hok := And.right hok
    refine lp_s_openBlock_21 C hq m h a1 400 (((-1 : Int32), (0 : Int32))) s3 (fun z4 hz4 => ?_)
    have hf := hf.trans (g_let_eq hz4.symm)
    have hok := g_let_p hz4.symm hok
    refine x_iload_n C dX1_openBlock_65 rfl 2 rfl ?_
    refine x_iconst (v := (-1 : Int32)) C dX1_openBlock_66 (by decide) ?_
    refine x_icmp_eq (tgt := 94) C dX1_openBlock_67 (by decide) (fun c5 => ?_) (fun c5 => ?_)
    · have hf := hf.trans (if_pos c5)
      have hok := g_ip c5 hok
      refine x_iload_n C dX1_openBlock_94 rfl 2 rfl ?_
      exact g_iret C hr rfl dX1_openBlock_95 (congrArg (fun z => z.1) hf).symm (congrArg (fun z => z.2) hf).symm rfl
    · have hf := hf.trans (if_neg c5)
      have hok := g_in c5 hok
      refine x_aload_n C dX1_openBlock_70 rfl 0 rfl ?_
      refine x_get (v := .ref (q 7)) C in_X1_openBlock_1 0 rfl rfl 6 (by decide) k_X1_openBlock_30 rfl rfl dX1_openBlock_71 ?_
      refine x_iload_n C dX1_openBlock_74 rfl 2 rfl ?_
      refine x_iload_n C dX1_openBlock_75 rfl 1 rfl ?_
      have s6 := And.left hok
      have hok := And.right hok
      obtain ⟨z7, hz7⟩ : ∃ y9 : gM, y9 = g_set m 7 (upd (m 7) z4.1.toNatClampNeg a1) := ⟨_, rfl⟩
      have hf := hf.trans (g_let_eq hz7)
      have hok := g_let_p hz7 hok
      refine x_iast (μ' := z7) (n := 12) C hq 7 rfl s6 hz7 dX1_openBlock_76 ?_
      refine x_aload_n C dX1_openBlock_77 rfl 0 rfl ?_
      refine x_get (v := .ref (q 12)) C in_X1_openBlock_1 0 rfl rfl 11 (by decide) k_X1_openBlock_45 rfl rfl dX1_openBlock_78 ?_
      refine x_iload_n C dX1_openBlock_81 rfl 1 rfl ?_
      refine x_iload_n C dX1_openBlock_82 rfl 2 rfl ?_
      have s8 := And.left hok
      have hok := And.right hok
      obtain ⟨z9, hz9⟩ : ∃ y9 : gM, y9 = g_set z7 12 (upd (z7 12) a1.toNatClampNeg z4.1) := ⟨_, rfl⟩
      have hf := hf.trans (g_let_eq hz9)
      have hok := g_let_p hz9 hok
      refine x_iast (μ' := z9) (n := 5) C hq 12 rfl s8 hz9 dX1_openBlock_83 ?_
      refine x_aload_n C dX1_openBlock_84 rfl 0 rfl ?_
      refine x_dup C dX1_openBlock_85 rfl ?_
      refine x_get (v := .int (z9 0 15)) C in_X1_openBlock_1 0 rfl rfl 15 (by decide) k_X1_openBlock_57 rfl rfl dX1_openBlock_86 ?_
      refine x_iconst (v := (1 : Int32)) C dX1_openBlock_89 (by decide) ?_
      refine x_isub C dX1_openBlock_90 ?_
      obtain ⟨z10, hz10⟩ : ∃ y9 : gM, y9 = g_set z9 0 (upd (z9 0) 15 ((z9 0 15) - (1 : Int32))) := ⟨_, rfl⟩
      have hf := hf.trans (g_let_eq hz10)
      have hok := g_let_p hz10 hok
      refine x_puti (μ' := z10) (ty := .int) C hq tyX1 tyX1_ok nmX1 in_X1_openBlock_1 0 rfl rfl 15 (by decide) k_X1_openBlock_57 rfl (tyX1_ok 15 (by decide)) rfl rfl rfl hz10 dX1_openBlock_91 ?_
      refine x_iload_n C dX1_openBlock_94 rfl 2 rfl ?_
      exact g_iret C hr rfl dX1_openBlock_95 (congrArg (fun z => z.1) hf).symm (congrArg (fun z => z.2) hf).symm rfl
  · have hf := hf.trans (if_neg c2)
    have hok := g_in c2 hok
    refine x_aload_n C dX1_openBlock_10 rfl 0 rfl ?_
    refine x_get (v := .ref (q 12)) C in_X1_openBlock_1 0 rfl rfl 11 (by decide) k_X1_openBlock_45 rfl rfl dX1_openBlock_11 ?_
    refine x_iload_n C dX1_openBlock_14 rfl 1 rfl ?_
    have s11 := And.left hok
    have hok := And.right hok
    refine x_iald (n := 5) (v := (m 12 a1.toNatClampNeg)) C 12 rfl s11 rfl dX1_openBlock_15 ?_
    exact g_iret C hr rfl dX1_openBlock_16 (congrArg (fun z => z.1) hf).symm (congrArg (fun z => z.2) hf).symm rfl
set_option maxRecDepth 20000 in
theorem in_X1_program_1 : ∀ w ∈ u_ws RX1 TX1 17, w ∈ wsX1_program := by decide +kernel
set_option maxRecDepth 20000 in
theorem k_X1_program_27 : Cond.fieldLink RX1 27 "HintedPages$Store" "pageAt" "[I" ∈ wsX1_program := by decide +kernel
set_option maxRecDepth 20000 in
theorem k_X1_program_33 : Cond.fieldLink RX1 33 "HintedPages$Store" "programmedOfBlock" "[I" ∈ wsX1_program := by decide +kernel
set_option maxRecDepth 20000 in
theorem k_X1_program_36 : Cond.fieldLink RX1 36 "HintedPages$Store" "validOfBlock" "[I" ∈ wsX1_program := by decide +kernel
set_option maxRecDepth 20000 in
theorem k_X1_program_42 : Cond.fieldLink RX1 42 "HintedPages$Store" "closingOfBlock" "[I" ∈ wsX1_program := by decide +kernel
set_option maxRecDepth 20000 in
theorem k_X1_program_45 : Cond.fieldLink RX1 45 "HintedPages$Store" "openOfStream" "[I" ∈ wsX1_program := by decide +kernel
set_option maxRecDepth 20000 in
theorem k_X1_program_48 : Cond.fieldLink RX1 48 "HintedPages$Store" "programmedOfStream" "[I" ∈ wsX1_program := by decide +kernel
set_option maxRecDepth 20000 in
theorem k_X1_program_61 : Cond.fieldLink RX1 61 "HintedPages$Store" "closings" "I" ∈ wsX1_program := by decide +kernel
set_option maxRecDepth 20000 in
theorem k_X1_program_9 : Cond.fieldLink RX1 9 "HintedPages$Store" "placeOfPage" "[I" ∈ wsX1_program := by decide +kernel
abbrev rm_s_program : Room := { frames := 0, cells := 0, slots := 0, locals := 0 }
noncomputable def f_s_program (m : gM) (a1 : Int32) (a2 : Int32) (a3 : Int32) : gM := (if a3 = (-1 : Int32) then m else (if (m 8 a3.toNatClampNeg) < (8 : Int32) then g_let ((m 1 a1.toNatClampNeg)) (fun z5 : Int32 => (if z5 = (-1 : Int32) then g_let (((a3 * (8 : Int32)) + (m 8 a3.toNatClampNeg))) (fun z8 : Int32 => g_let (g_set m 1 (upd (m 1) a1.toNatClampNeg z8)) (fun z10 : gM => g_let (g_set z10 6 (upd (z10 6) z8.toNatClampNeg a1)) (fun z12 : gM => g_let (g_set z12 9 (upd (z12 9) a3.toNatClampNeg ((z12 9 a3.toNatClampNeg) + (1 : Int32)))) (fun z15 : gM => g_let (g_set z15 8 (upd (z15 8) a3.toNatClampNeg ((z15 8 a3.toNatClampNeg) + (1 : Int32)))) (fun z18 : gM => g_let (g_set z18 13 (upd (z18 13) a2.toNatClampNeg ((z18 13 a2.toNatClampNeg) + (1 : Int32)))) (fun z21 : gM => (if (z21 8 a3.toNatClampNeg) = (8 : Int32) then g_let (g_set z21 12 (upd (z21 12) a2.toNatClampNeg (-1 : Int32))) (fun z25 : gM => g_let (g_set z25 11 (upd (z25 11) a3.toNatClampNeg (z25 0 16))) (fun z27 : gM => g_let (g_set z27 0 (upd (z27 0) 16 ((z27 0 16) + (1 : Int32)))) (fun z28 : gM => z28))) else z21))))))) else g_let (g_set m 9 (upd (m 9) (z5 / (8 : Int32)).toNatClampNeg ((m 9 (z5 / (8 : Int32)).toNatClampNeg) - (1 : Int32)))) (fun z31 : gM => g_let (((a3 * (8 : Int32)) + (z31 8 a3.toNatClampNeg))) (fun z33 : Int32 => g_let (g_set z31 1 (upd (z31 1) a1.toNatClampNeg z33)) (fun z35 : gM => g_let (g_set z35 6 (upd (z35 6) z33.toNatClampNeg a1)) (fun z37 : gM => g_let (g_set z37 9 (upd (z37 9) a3.toNatClampNeg ((z37 9 a3.toNatClampNeg) + (1 : Int32)))) (fun z40 : gM => g_let (g_set z40 8 (upd (z40 8) a3.toNatClampNeg ((z40 8 a3.toNatClampNeg) + (1 : Int32)))) (fun z43 : gM => g_let (g_set z43 13 (upd (z43 13) a2.toNatClampNeg ((z43 13 a2.toNatClampNeg) + (1 : Int32)))) (fun z46 : gM => (if (z46 8 a3.toNatClampNeg) = (8 : Int32) then g_let (g_set z46 12 (upd (z46 12) a2.toNatClampNeg (-1 : Int32))) (fun z50 : gM => g_let (g_set z50 11 (upd (z50 11) a3.toNatClampNeg (z50 0 16))) (fun z52 : gM => g_let (g_set z52 0 (upd (z52 0) 16 ((z52 0 16) + (1 : Int32)))) (fun z53 : gM => z53))) else z46)))))))))) else m))
noncomputable def o_s_program (m : gM) (a1 : Int32) (a2 : Int32) (a3 : Int32) : Prop := (if a3 = (-1 : Int32) then True else (vp_in a3 12) ∧ ((if (m 8 a3.toNatClampNeg) < (8 : Int32) then (vp_in a1 40) ∧ (g_let ((m 1 a1.toNatClampNeg)) (fun z5 : Int32 => (if z5 = (-1 : Int32) then (vp_in a3 12) ∧ (g_let (((a3 * (8 : Int32)) + (m 8 a3.toNatClampNeg))) (fun z8 : Int32 => (vp_in a1 40) ∧ (g_let (g_set m 1 (upd (m 1) a1.toNatClampNeg z8)) (fun z10 : gM => (vp_in z8 96) ∧ (g_let (g_set z10 6 (upd (z10 6) z8.toNatClampNeg a1)) (fun z12 : gM => (vp_in a3 12) ∧ ((vp_in a3 12) ∧ (g_let (g_set z12 9 (upd (z12 9) a3.toNatClampNeg ((z12 9 a3.toNatClampNeg) + (1 : Int32)))) (fun z15 : gM => (vp_in a3 12) ∧ ((vp_in a3 12) ∧ (g_let (g_set z15 8 (upd (z15 8) a3.toNatClampNeg ((z15 8 a3.toNatClampNeg) + (1 : Int32)))) (fun z18 : gM => (vp_in a2 5) ∧ ((vp_in a2 5) ∧ (g_let (g_set z18 13 (upd (z18 13) a2.toNatClampNeg ((z18 13 a2.toNatClampNeg) + (1 : Int32)))) (fun z21 : gM => (vp_in a3 12) ∧ ((if (z21 8 a3.toNatClampNeg) = (8 : Int32) then (vp_in a2 5) ∧ (g_let (g_set z21 12 (upd (z21 12) a2.toNatClampNeg (-1 : Int32))) (fun z25 : gM => (vp_in a3 12) ∧ (g_let (g_set z25 11 (upd (z25 11) a3.toNatClampNeg (z25 0 16))) (fun z27 : gM => g_let (g_set z27 0 (upd (z27 0) 16 ((z27 0 16) + (1 : Int32)))) (fun z28 : gM => True))))) else True))))))))))))))))) else (vp_in (z5 / (8 : Int32)) 12) ∧ ((vp_in (z5 / (8 : Int32)) 12) ∧ (g_let (g_set m 9 (upd (m 9) (z5 / (8 : Int32)).toNatClampNeg ((m 9 (z5 / (8 : Int32)).toNatClampNeg) - (1 : Int32)))) (fun z31 : gM => (vp_in a3 12) ∧ (g_let (((a3 * (8 : Int32)) + (z31 8 a3.toNatClampNeg))) (fun z33 : Int32 => (vp_in a1 40) ∧ (g_let (g_set z31 1 (upd (z31 1) a1.toNatClampNeg z33)) (fun z35 : gM => (vp_in z33 96) ∧ (g_let (g_set z35 6 (upd (z35 6) z33.toNatClampNeg a1)) (fun z37 : gM => (vp_in a3 12) ∧ ((vp_in a3 12) ∧ (g_let (g_set z37 9 (upd (z37 9) a3.toNatClampNeg ((z37 9 a3.toNatClampNeg) + (1 : Int32)))) (fun z40 : gM => (vp_in a3 12) ∧ ((vp_in a3 12) ∧ (g_let (g_set z40 8 (upd (z40 8) a3.toNatClampNeg ((z40 8 a3.toNatClampNeg) + (1 : Int32)))) (fun z43 : gM => (vp_in a2 5) ∧ ((vp_in a2 5) ∧ (g_let (g_set z43 13 (upd (z43 13) a2.toNatClampNeg ((z43 13 a2.toNatClampNeg) + (1 : Int32)))) (fun z46 : gM => (vp_in a3 12) ∧ ((if (z46 8 a3.toNatClampNeg) = (8 : Int32) then (vp_in a2 5) ∧ (g_let (g_set z46 12 (upd (z46 12) a2.toNatClampNeg (-1 : Int32))) (fun z50 : gM => (vp_in a3 12) ∧ (g_let (g_set z50 11 (upd (z50 11) a3.toNatClampNeg (z50 0 16))) (fun z52 : gM => g_let (g_set z52 0 (upd (z52 0) 16 ((z52 0 16) + (1 : Int32)))) (fun z53 : gM => True))))) else True))))))))))))))))))))))) else True)))
set_option maxRecDepth 100000 in
set_option maxHeartbeats 4000000 in
theorem c_s_program (l : Launch) (G : gG) (q : Nat → Nat) (m : gM) (h : gN) (a1 : Int32) (a2 : Int32) (a3 : Int32) (hok : o_s_program m a1 a2 a3) : gMv l yX1_program wsX1_program rm_s_program G shS q m h [.ref (q 0), .int a1, .int a2, .int a3] (f_s_program m a1 a2 a3) h := by
  intro sz
  refine g_met (cc := cX1_program) (maxL := 6) (ret := none) (own := RX1) (Qc := fun sz => gQv G shS q (f_s_program m a1 a2 a3) h sz) (by decide) rfl rfl (Nat.le_of_ble_eq_true rfl) (fun p e s m9 below meth c C hq hr => ?_)
  refine x_lv (lv' := [(0, .ref (q 0)), (1, .int a1), (2, .int a2), (3, .int a3)]) [0, 1, 2, 3] rfl ?_
  have hf := f_s_program.eq_1 m a1 a2 a3
  have hok := Eq.mp (o_s_program.eq_1 m a1 a2 a3) hok
  refine x_iload_n C dX1_program_0 rfl 3 rfl ?_
  refine x_iconst (v := (-1 : Int32)) C dX1_program_1 (by decide) ?_
  refine x_icmp_eq (tgt := 16) C dX1_program_2 (by decide) (fun c1 => ?_) (fun c1 => ?_)
  · have hf := hf.trans (if_pos c1)
    have hok := g_ip c1 hok
    exact g_vret C hr dX1_program_16 hf.symm rfl
  · have hf := hf.trans (if_neg c1)
    have hok := g_in c1 hok
    refine x_aload_n C dX1_program_5 rfl 0 rfl ?_
    refine x_get (v := .ref (q 8)) C in_X1_program_1 0 rfl rfl 7 (by decide) k_X1_program_33 rfl rfl dX1_program_6 ?_
    refine x_iload_n C dX1_program_9 rfl 3 rfl ?_
    have s2 := And.left hok
    have hok := And.right hok
    refine x_iald (n := 12) (v := (m 8 a3.toNatClampNeg)) C 8 rfl s2 rfl dX1_program_10 ?_
    refine x_bipush (v := (8 : Int32)) C dX1_program_11 (by decide) ?_
    refine x_icmp_lt (tgt := 17) C dX1_program_13 (by decide) (fun c3 => ?_) (fun c3 => ?_)
    · have hf := hf.trans (if_pos c3)
      have hok := g_ip c3 hok
      refine x_aload_n C dX1_program_17 rfl 0 rfl ?_
      refine x_get (v := .ref (q 1)) C in_X1_program_1 0 rfl rfl 0 (by decide) k_X1_program_9 rfl rfl dX1_program_18 ?_
      refine x_iload_n C dX1_program_21 rfl 1 rfl ?_
      have s4 := And.left hok
      have hok := And.right hok
      refine x_iald (n := 40) (v := (m 1 a1.toNatClampNeg)) C 1 rfl s4 rfl dX1_program_22 ?_
      obtain ⟨z5, hz5⟩ : ∃ y9 : Int32, y9 = (m 1 a1.toNatClampNeg) := ⟨_, rfl⟩
      have hf := hf.trans (g_let_eq hz5)
      have hok := g_let_p hz5 hok
      refine x_topi hz5 ?_
      refine x_istore (lv' := [(0, .ref (q 0)), (1, .int a1), (2, .int a2), (3, .int a3), (4, .int z5)]) C dX1_program_23 (by decide) [1, 2, 3, 4, 0] rfl ?_
      refine x_iload C dX1_program_25 4 rfl ?_
      refine x_iconst (v := (-1 : Int32)) C dX1_program_27 (by decide) ?_
      refine x_icmp_eq (tgt := 45) C dX1_program_28 (by decide) (fun c6 => ?_) (fun c6 => ?_)
      · have hf := hf.trans (if_pos c6)
        have hok := g_ip c6 hok
        refine x_iload_n C dX1_program_45 rfl 3 rfl ?_
        refine x_bipush (v := (8 : Int32)) C dX1_program_46 (by decide) ?_
        refine x_imul C dX1_program_48 ?_
        refine x_aload_n C dX1_program_49 rfl 0 rfl ?_
        refine x_get (v := .ref (q 8)) C in_X1_program_1 0 rfl rfl 7 (by decide) k_X1_program_33 rfl rfl dX1_program_50 ?_
        refine x_iload_n C dX1_program_53 rfl 3 rfl ?_
        have s7 := And.left hok
        have hok := And.right hok
        refine x_iald (n := 12) (v := (m 8 a3.toNatClampNeg)) C 8 rfl s7 rfl dX1_program_54 ?_
        refine x_iadd C dX1_program_55 ?_
        obtain ⟨z8, hz8⟩ : ∃ y9 : Int32, y9 = ((a3 * (8 : Int32)) + (m 8 a3.toNatClampNeg)) := ⟨_, rfl⟩
        have hf := hf.trans (g_let_eq hz8)
        have hok := g_let_p hz8 hok
        refine x_topi hz8 ?_
        refine x_istore (lv' := [(0, .ref (q 0)), (1, .int a1), (2, .int a2), (3, .int a3), (4, .int z5), (5, .int z8)]) C dX1_program_56 (by decide) [1, 2, 3, 4, 5, 0] rfl ?_
        refine x_aload_n C dX1_program_58 rfl 0 rfl ?_
        refine x_get (v := .ref (q 1)) C in_X1_program_1 0 rfl rfl 0 (by decide) k_X1_program_9 rfl rfl dX1_program_59 ?_
        refine x_iload_n C dX1_program_62 rfl 1 rfl ?_
        refine x_iload C dX1_program_63 5 rfl ?_
        have s9 := And.left hok
        have hok := And.right hok
        obtain ⟨z10, hz10⟩ : ∃ y9 : gM, y9 = g_set m 1 (upd (m 1) a1.toNatClampNeg z8) := ⟨_, rfl⟩
        have hf := hf.trans (g_let_eq hz10)
        have hok := g_let_p hz10 hok
        refine x_iast (μ' := z10) (n := 40) C hq 1 rfl s9 hz10 dX1_program_65 ?_
        refine x_aload_n C dX1_program_66 rfl 0 rfl ?_
        refine x_get (v := .ref (q 6)) C in_X1_program_1 0 rfl rfl 5 (by decide) k_X1_program_27 rfl rfl dX1_program_67 ?_
        refine x_iload C dX1_program_70 5 rfl ?_
        refine x_iload_n C dX1_program_72 rfl 1 rfl ?_
        have s11 := And.left hok
        have hok := And.right hok
        obtain ⟨z12, hz12⟩ : ∃ y9 : gM, y9 = g_set z10 6 (upd (z10 6) z8.toNatClampNeg a1) := ⟨_, rfl⟩
        have hf := hf.trans (g_let_eq hz12)
        have hok := g_let_p hz12 hok
        refine x_iast (μ' := z12) (n := 96) C hq 6 rfl s11 hz12 dX1_program_73 ?_
        refine x_aload_n C dX1_program_74 rfl 0 rfl ?_
        refine x_get (v := .ref (q 9)) C in_X1_program_1 0 rfl rfl 8 (by decide) k_X1_program_36 rfl rfl dX1_program_75 ?_
        refine x_iload_n C dX1_program_78 rfl 3 rfl ?_
        refine x_dup2 C dX1_program_79 rfl rfl ?_
        have s13 := And.left hok
        have hok := And.right hok
        refine x_iald (n := 12) (v := (z12 9 a3.toNatClampNeg)) C 9 rfl s13 rfl dX1_program_80 ?_
        refine x_iconst (v := (1 : Int32)) C dX1_program_81 (by decide) ?_
        refine x_iadd C dX1_program_82 ?_
        have s14 := And.left hok
        have hok := And.right hok
        obtain ⟨z15, hz15⟩ : ∃ y9 : gM, y9 = g_set z12 9 (upd (z12 9) a3.toNatClampNeg ((z12 9 a3.toNatClampNeg) + (1 : Int32))) := ⟨_, rfl⟩
        have hf := hf.trans (g_let_eq hz15)
        have hok := g_let_p hz15 hok
        refine x_iast (μ' := z15) (n := 12) C hq 9 rfl s14 hz15 dX1_program_83 ?_
        refine x_aload_n C dX1_program_84 rfl 0 rfl ?_
        refine x_get (v := .ref (q 8)) C in_X1_program_1 0 rfl rfl 7 (by decide) k_X1_program_33 rfl rfl dX1_program_85 ?_
        refine x_iload_n C dX1_program_88 rfl 3 rfl ?_
        refine x_dup2 C dX1_program_89 rfl rfl ?_
        have s16 := And.left hok
        have hok := And.right hok
        refine x_iald (n := 12) (v := (z15 8 a3.toNatClampNeg)) C 8 rfl s16 rfl dX1_program_90 ?_
        refine x_iconst (v := (1 : Int32)) C dX1_program_91 (by decide) ?_
        refine x_iadd C dX1_program_92 ?_
        have s17 := And.left hok
        have hok := And.right hok
        obtain ⟨z18, hz18⟩ : ∃ y9 : gM, y9 = g_set z15 8 (upd (z15 8) a3.toNatClampNeg ((z15 8 a3.toNatClampNeg) + (1 : Int32))) := ⟨_, rfl⟩
        have hf := hf.trans (g_let_eq hz18)
        have hok := g_let_p hz18 hok
        refine x_iast (μ' := z18) (n := 12) C hq 8 rfl s17 hz18 dX1_program_93 ?_
        refine x_aload_n C dX1_program_94 rfl 0 rfl ?_
        refine x_get (v := .ref (q 13)) C in_X1_program_1 0 rfl rfl 12 (by decide) k_X1_program_48 rfl rfl dX1_program_95 ?_
        refine x_iload_n C dX1_program_98 rfl 2 rfl ?_
        refine x_dup2 C dX1_program_99 rfl rfl ?_
        have s19 := And.left hok
        have hok := And.right hok
        refine x_iald (n := 5) (v := (z18 13 a2.toNatClampNeg)) C 13 rfl s19 rfl dX1_program_100 ?_
        refine x_iconst (v := (1 : Int32)) C dX1_program_101 (by decide) ?_
        refine x_iadd C dX1_program_102 ?_
        have s20 := And.left hok
        have hok := And.right hok
        obtain ⟨z21, hz21⟩ : ∃ y9 : gM, y9 = g_set z18 13 (upd (z18 13) a2.toNatClampNeg ((z18 13 a2.toNatClampNeg) + (1 : Int32))) := ⟨_, rfl⟩
        have hf := hf.trans (g_let_eq hz21)
        have hok := g_let_p hz21 hok
        refine x_iast (μ' := z21) (n := 5) C hq 13 rfl s20 hz21 dX1_program_103 ?_
        refine x_aload_n C dX1_program_104 rfl 0 rfl ?_
        refine x_get (v := .ref (q 8)) C in_X1_program_1 0 rfl rfl 7 (by decide) k_X1_program_33 rfl rfl dX1_program_105 ?_
        refine x_iload_n C dX1_program_108 rfl 3 rfl ?_
        have s22 := And.left hok
        have hok := And.right hok
        refine x_iald (n := 12) (v := (z21 8 a3.toNatClampNeg)) C 8 rfl s22 rfl dX1_program_109 ?_
        refine x_bipush (v := (8 : Int32)) C dX1_program_110 (by decide) ?_
        refine x_icmp_ne (tgt := 142) C dX1_program_112 (by decide) (fun c23 => ?_) (fun c23 => ?_)
        · have hf := hf.trans (if_neg c23)
          have hok := g_in c23 hok
          exact g_vret C hr dX1_program_142 hf.symm rfl
        · have hf := hf.trans (if_pos c23)
          have hok := g_ip c23 hok
          refine x_aload_n C dX1_program_115 rfl 0 rfl ?_
          refine x_get (v := .ref (q 12)) C in_X1_program_1 0 rfl rfl 11 (by decide) k_X1_program_45 rfl rfl dX1_program_116 ?_
          refine x_iload_n C dX1_program_119 rfl 2 rfl ?_
          refine x_iconst (v := (-1 : Int32)) C dX1_program_120 (by decide) ?_
          have s24 := And.left hok
          have hok := And.right hok
          obtain ⟨z25, hz25⟩ : ∃ y9 : gM, y9 = g_set z21 12 (upd (z21 12) a2.toNatClampNeg (-1 : Int32)) := ⟨_, rfl⟩
          have hf := hf.trans (g_let_eq hz25)
          have hok := g_let_p hz25 hok
          refine x_iast (μ' := z25) (n := 5) C hq 12 rfl s24 hz25 dX1_program_121 ?_
          refine x_aload_n C dX1_program_122 rfl 0 rfl ?_
          refine x_get (v := .ref (q 11)) C in_X1_program_1 0 rfl rfl 10 (by decide) k_X1_program_42 rfl rfl dX1_program_123 ?_
          refine x_iload_n C dX1_program_126 rfl 3 rfl ?_
          refine x_aload_n C dX1_program_127 rfl 0 rfl ?_
          refine x_get (v := .int (z25 0 16)) C in_X1_program_1 0 rfl rfl 16 (by decide) k_X1_program_61 rfl rfl dX1_program_128 ?_
          have s26 := And.left hok
          have hok := And.right hok
          obtain ⟨z27, hz27⟩ : ∃ y9 : gM, y9 = g_set z25 11 (upd (z25 11) a3.toNatClampNeg (z25 0 16)) := ⟨_, rfl⟩
          have hf := hf.trans (g_let_eq hz27)
          have hok := g_let_p hz27 hok
          refine x_iast (μ' := z27) (n := 12) C hq 11 rfl s26 hz27 dX1_program_131 ?_
          refine x_aload_n C dX1_program_132 rfl 0 rfl ?_
          refine x_dup C dX1_program_133 rfl ?_
          refine x_get (v := .int (z27 0 16)) C in_X1_program_1 0 rfl rfl 16 (by decide) k_X1_program_61 rfl rfl dX1_program_134 ?_
          refine x_iconst (v := (1 : Int32)) C dX1_program_137 (by decide) ?_
          refine x_iadd C dX1_program_138 ?_
          obtain ⟨z28, hz28⟩ : ∃ y9 : gM, y9 = g_set z27 0 (upd (z27 0) 16 ((z27 0 16) + (1 : Int32))) := ⟨_, rfl⟩
          have hf := hf.trans (g_let_eq hz28)
          have hok := g_let_p hz28 hok
          refine x_puti (μ' := z28) (ty := .int) C hq tyX1 tyX1_ok nmX1 in_X1_program_1 0 rfl rfl 16 (by decide) k_X1_program_61 rfl (tyX1_ok 16 (by decide)) rfl rfl rfl hz28 dX1_program_139 ?_
          exact g_vret C hr dX1_program_142 hf.symm rfl
      · have hf := hf.trans (if_neg c6)
        have hok := g_in c6 hok
        refine x_aload_n C dX1_program_31 rfl 0 rfl ?_
        refine x_get (v := .ref (q 9)) C in_X1_program_1 0 rfl rfl 8 (by decide) k_X1_program_36 rfl rfl dX1_program_32 ?_
        refine x_iload C dX1_program_35 4 rfl ?_
        refine x_bipush (v := (8 : Int32)) C dX1_program_37 (by decide) ?_
        refine x_idiv C dX1_program_39 (by decide) ?_
        refine x_dup2 C dX1_program_40 rfl rfl ?_
        have s29 := And.left hok
        have hok := And.right hok
        refine x_iald (n := 12) (v := (m 9 (z5 / (8 : Int32)).toNatClampNeg)) C 9 rfl s29 rfl dX1_program_41 ?_
        refine x_iconst (v := (1 : Int32)) C dX1_program_42 (by decide) ?_
        refine x_isub C dX1_program_43 ?_
        have s30 := And.left hok
        have hok := And.right hok
        obtain ⟨z31, hz31⟩ : ∃ y9 : gM, y9 = g_set m 9 (upd (m 9) (z5 / (8 : Int32)).toNatClampNeg ((m 9 (z5 / (8 : Int32)).toNatClampNeg) - (1 : Int32))) := ⟨_, rfl⟩
        have hf := hf.trans (g_let_eq hz31)
        have hok := g_let_p hz31 hok
        refine x_iast (μ' := z31) (n := 12) C hq 9 rfl s30 hz31 dX1_program_44 ?_
        refine x_iload_n C dX1_program_45 rfl 3 rfl ?_
        refine x_bipush (v := (8 : Int32)) C dX1_program_46 (by decide) ?_
        refine x_imul C dX1_program_48 ?_
        refine x_aload_n C dX1_program_49 rfl 0 rfl ?_
        refine x_get (v := .ref (q 8)) C in_X1_program_1 0 rfl rfl 7 (by decide) k_X1_program_33 rfl rfl dX1_program_50 ?_
        refine x_iload_n C dX1_program_53 rfl 3 rfl ?_
        have s32 := And.left hok
        have hok := And.right hok
        refine x_iald (n := 12) (v := (z31 8 a3.toNatClampNeg)) C 8 rfl s32 rfl dX1_program_54 ?_
        refine x_iadd C dX1_program_55 ?_
        obtain ⟨z33, hz33⟩ : ∃ y9 : Int32, y9 = ((a3 * (8 : Int32)) + (z31 8 a3.toNatClampNeg)) := ⟨_, rfl⟩
        have hf := hf.trans (g_let_eq hz33)
        have hok := g_let_p hz33 hok
        refine x_topi hz33 ?_
        refine x_istore (lv' := [(0, .ref (q 0)), (1, .int a1), (2, .int a2), (3, .int a3), (4, .int z5), (5, .int z33)]) C dX1_program_56 (by decide) [1, 2, 3, 4, 5, 0] rfl ?_
        refine x_aload_n C dX1_program_58 rfl 0 rfl ?_
        refine x_get (v := .ref (q 1)) C in_X1_program_1 0 rfl rfl 0 (by decide) k_X1_program_9 rfl rfl dX1_program_59 ?_
        refine x_iload_n C dX1_program_62 rfl 1 rfl ?_
        refine x_iload C dX1_program_63 5 rfl ?_
        have s34 := And.left hok
        have hok := And.right hok
        obtain ⟨z35, hz35⟩ : ∃ y9 : gM, y9 = g_set z31 1 (upd (z31 1) a1.toNatClampNeg z33) := ⟨_, rfl⟩
        have hf := hf.trans (g_let_eq hz35)
        have hok := g_let_p hz35 hok
        refine x_iast (μ' := z35) (n := 40) C hq 1 rfl s34 hz35 dX1_program_65 ?_
        refine x_aload_n C dX1_program_66 rfl 0 rfl ?_
        refine x_get (v := .ref (q 6)) C in_X1_program_1 0 rfl rfl 5 (by decide) k_X1_program_27 rfl rfl dX1_program_67 ?_
        refine x_iload C dX1_program_70 5 rfl ?_
        refine x_iload_n C dX1_program_72 rfl 1 rfl ?_
        have s36 := And.left hok
        have hok := And.right hok
        obtain ⟨z37, hz37⟩ : ∃ y9 : gM, y9 = g_set z35 6 (upd (z35 6) z33.toNatClampNeg a1) := ⟨_, rfl⟩
        have hf := hf.trans (g_let_eq hz37)
        have hok := g_let_p hz37 hok
        refine x_iast (μ' := z37) (n := 96) C hq 6 rfl s36 hz37 dX1_program_73 ?_
        refine x_aload_n C dX1_program_74 rfl 0 rfl ?_
        refine x_get (v := .ref (q 9)) C in_X1_program_1 0 rfl rfl 8 (by decide) k_X1_program_36 rfl rfl dX1_program_75 ?_
        refine x_iload_n C dX1_program_78 rfl 3 rfl ?_
        refine x_dup2 C dX1_program_79 rfl rfl ?_
        have s38 := And.left hok
        have hok := And.right hok
        refine x_iald (n := 12) (v := (z37 9 a3.toNatClampNeg)) C 9 rfl s38 rfl dX1_program_80 ?_
        refine x_iconst (v := (1 : Int32)) C dX1_program_81 (by decide) ?_
        refine x_iadd C dX1_program_82 ?_
        have s39 := And.left hok
        have hok := And.right hok
        obtain ⟨z40, hz40⟩ : ∃ y9 : gM, y9 = g_set z37 9 (upd (z37 9) a3.toNatClampNeg ((z37 9 a3.toNatClampNeg) + (1 : Int32))) := ⟨_, rfl⟩
        have hf := hf.trans (g_let_eq hz40)
        have hok := g_let_p hz40 hok
        refine x_iast (μ' := z40) (n := 12) C hq 9 rfl s39 hz40 dX1_program_83 ?_
        refine x_aload_n C dX1_program_84 rfl 0 rfl ?_
        refine x_get (v := .ref (q 8)) C in_X1_program_1 0 rfl rfl 7 (by decide) k_X1_program_33 rfl rfl dX1_program_85 ?_
        refine x_iload_n C dX1_program_88 rfl 3 rfl ?_
        refine x_dup2 C dX1_program_89 rfl rfl ?_
        have s41 := And.left hok
        have hok := And.right hok
        refine x_iald (n := 12) (v := (z40 8 a3.toNatClampNeg)) C 8 rfl s41 rfl dX1_program_90 ?_
        refine x_iconst (v := (1 : Int32)) C dX1_program_91 (by decide) ?_
        refine x_iadd C dX1_program_92 ?_
        have s42 := And.left hok
        have hok := And.right hok
        obtain ⟨z43, hz43⟩ : ∃ y9 : gM, y9 = g_set z40 8 (upd (z40 8) a3.toNatClampNeg ((z40 8 a3.toNatClampNeg) + (1 : Int32))) := ⟨_, rfl⟩
        have hf := hf.trans (g_let_eq hz43)
        have hok := g_let_p hz43 hok
        refine x_iast (μ' := z43) (n := 12) C hq 8 rfl s42 hz43 dX1_program_93 ?_
        refine x_aload_n C dX1_program_94 rfl 0 rfl ?_
        refine x_get (v := .ref (q 13)) C in_X1_program_1 0 rfl rfl 12 (by decide) k_X1_program_48 rfl rfl dX1_program_95 ?_
        refine x_iload_n C dX1_program_98 rfl 2 rfl ?_
        refine x_dup2 C dX1_program_99 rfl rfl ?_
        have s44 := And.left hok
        have hok := And.right hok
        refine x_iald (n := 5) (v := (z43 13 a2.toNatClampNeg)) C 13 rfl s44 rfl dX1_program_100 ?_
        refine x_iconst (v := (1 : Int32)) C dX1_program_101 (by decide) ?_
        refine x_iadd C dX1_program_102 ?_
        have s45 := And.left hok
        have hok := And.right hok
        obtain ⟨z46, hz46⟩ : ∃ y9 : gM, y9 = g_set z43 13 (upd (z43 13) a2.toNatClampNeg ((z43 13 a2.toNatClampNeg) + (1 : Int32))) := ⟨_, rfl⟩
        have hf := hf.trans (g_let_eq hz46)
        have hok := g_let_p hz46 hok
        refine x_iast (μ' := z46) (n := 5) C hq 13 rfl s45 hz46 dX1_program_103 ?_
        refine x_aload_n C dX1_program_104 rfl 0 rfl ?_
        refine x_get (v := .ref (q 8)) C in_X1_program_1 0 rfl rfl 7 (by decide) k_X1_program_33 rfl rfl dX1_program_105 ?_
        refine x_iload_n C dX1_program_108 rfl 3 rfl ?_
        have s47 := And.left hok
        have hok := And.right hok
        refine x_iald (n := 12) (v := (z46 8 a3.toNatClampNeg)) C 8 rfl s47 rfl dX1_program_109 ?_
        refine x_bipush (v := (8 : Int32)) C dX1_program_110 (by decide) ?_
        refine x_icmp_ne (tgt := 142) C dX1_program_112 (by decide) (fun c48 => ?_) (fun c48 => ?_)
        · have hf := hf.trans (if_neg c48)
          have hok := g_in c48 hok
          exact g_vret C hr dX1_program_142 hf.symm rfl
        · have hf := hf.trans (if_pos c48)
          have hok := g_ip c48 hok
          refine x_aload_n C dX1_program_115 rfl 0 rfl ?_
          refine x_get (v := .ref (q 12)) C in_X1_program_1 0 rfl rfl 11 (by decide) k_X1_program_45 rfl rfl dX1_program_116 ?_
          refine x_iload_n C dX1_program_119 rfl 2 rfl ?_
          refine x_iconst (v := (-1 : Int32)) C dX1_program_120 (by decide) ?_
          have s49 := And.left hok
          have hok := And.right hok
          obtain ⟨z50, hz50⟩ : ∃ y9 : gM, y9 = g_set z46 12 (upd (z46 12) a2.toNatClampNeg (-1 : Int32)) := ⟨_, rfl⟩
          have hf := hf.trans (g_let_eq hz50)
          have hok := g_let_p hz50 hok
          refine x_iast (μ' := z50) (n := 5) C hq 12 rfl s49 hz50 dX1_program_121 ?_
          refine x_aload_n C dX1_program_122 rfl 0 rfl ?_
          refine x_get (v := .ref (q 11)) C in_X1_program_1 0 rfl rfl 10 (by decide) k_X1_program_42 rfl rfl dX1_program_123 ?_
          refine x_iload_n C dX1_program_126 rfl 3 rfl ?_
          refine x_aload_n C dX1_program_127 rfl 0 rfl ?_
          refine x_get (v := .int (z50 0 16)) C in_X1_program_1 0 rfl rfl 16 (by decide) k_X1_program_61 rfl rfl dX1_program_128 ?_
          have s51 := And.left hok
          have hok := And.right hok
          obtain ⟨z52, hz52⟩ : ∃ y9 : gM, y9 = g_set z50 11 (upd (z50 11) a3.toNatClampNeg (z50 0 16)) := ⟨_, rfl⟩
          have hf := hf.trans (g_let_eq hz52)
          have hok := g_let_p hz52 hok
          refine x_iast (μ' := z52) (n := 12) C hq 11 rfl s51 hz52 dX1_program_131 ?_
          refine x_aload_n C dX1_program_132 rfl 0 rfl ?_
          refine x_dup C dX1_program_133 rfl ?_
          refine x_get (v := .int (z52 0 16)) C in_X1_program_1 0 rfl rfl 16 (by decide) k_X1_program_61 rfl rfl dX1_program_134 ?_
          refine x_iconst (v := (1 : Int32)) C dX1_program_137 (by decide) ?_
          refine x_iadd C dX1_program_138 ?_
          obtain ⟨z53, hz53⟩ : ∃ y9 : gM, y9 = g_set z52 0 (upd (z52 0) 16 ((z52 0 16) + (1 : Int32))) := ⟨_, rfl⟩
          have hf := hf.trans (g_let_eq hz53)
          have hok := g_let_p hz53 hok
          refine x_puti (μ' := z53) (ty := .int) C hq tyX1 tyX1_ok nmX1 in_X1_program_1 0 rfl rfl 16 (by decide) k_X1_program_61 rfl (tyX1_ok 16 (by decide)) rfl rfl rfl hz53 dX1_program_139 ?_
          exact g_vret C hr dX1_program_142 hf.symm rfl
    · have hf := hf.trans (if_neg c3)
      have hok := g_in c3 hok
      exact g_vret C hr dX1_program_16 hf.symm rfl
set_option maxRecDepth 20000 in
theorem in_X1_rankOf_1 : ∀ w ∈ u_ws RX1 TX1 17, w ∈ wsX1_rankOf := by decide +kernel
set_option maxRecDepth 20000 in
theorem k_X1_rankOf_36 : Cond.fieldLink RX1 36 "HintedPages$Store" "validOfBlock" "[I" ∈ wsX1_rankOf := by decide +kernel
set_option maxRecDepth 20000 in
theorem k_X1_rankOf_39 : Cond.fieldLink RX1 39 "HintedPages$Store" "erasuresOfBlock" "[I" ∈ wsX1_rankOf := by decide +kernel
set_option maxRecDepth 20000 in
theorem k_X1_rankOf_42 : Cond.fieldLink RX1 42 "HintedPages$Store" "closingOfBlock" "[I" ∈ wsX1_rankOf := by decide +kernel
set_option maxRecDepth 20000 in
theorem k_X1_rankOf_54 : Cond.fieldLink RX1 54 "HintedPages$Store" "settings" "[I" ∈ wsX1_rankOf := by decide +kernel
abbrev rm_s_rankOf : Room := { frames := 0, cells := 0, slots := 0, locals := 0 }
noncomputable def f_s_rankOf (m : gM) (a1 : Int32) : Int32 := g_let ((m 15 (0 : Int32).toNatClampNeg)) (fun z1 : Int32 => (if z1 = (1 : Int32) then (m 11 a1.toNatClampNeg) else (if z1 = (2 : Int32) then (((m 10 a1.toNatClampNeg) * (9 : Int32)) + (m 9 a1.toNatClampNeg)) else (m 9 a1.toNatClampNeg))))
noncomputable def o_s_rankOf (m : gM) (a1 : Int32) : Prop := g_let ((m 15 (0 : Int32).toNatClampNeg)) (fun z1 : Int32 => (if z1 = (1 : Int32) then (vp_in a1 12) ∧ (True) else (if z1 = (2 : Int32) then (vp_in a1 12) ∧ ((vp_in a1 12) ∧ (True)) else (vp_in a1 12) ∧ (True))))
set_option maxRecDepth 100000 in
set_option maxHeartbeats 4000000 in
theorem c_s_rankOf (l : Launch) (G : gG) (q : Nat → Nat) (m : gM) (h : gN) (a1 : Int32) (hok : o_s_rankOf m a1) : gMi l yX1_rankOf wsX1_rankOf rm_s_rankOf G shS q m h [.ref (q 0), .int a1] m h (f_s_rankOf m a1) := by
  intro sz
  refine g_met (cc := cX1_rankOf) (maxL := 2) (ret := (some .int)) (own := RX1) (Qc := fun sz => gQi G shS q m h sz (f_s_rankOf m a1)) (by decide) rfl rfl (Nat.le_of_ble_eq_true rfl) (fun p e s m9 below meth c C hq hr => ?_)
  refine x_lv (lv' := [(0, .ref (q 0)), (1, .int a1)]) [0, 1] rfl ?_
  have hf := f_s_rankOf.eq_1 m a1
  have hok := Eq.mp (o_s_rankOf.eq_1 m a1) hok
  refine x_aload_n C dX1_rankOf_0 rfl 0 rfl ?_
  refine x_get (v := .ref (q 15)) C in_X1_rankOf_1 0 rfl rfl 14 (by decide) k_X1_rankOf_54 rfl rfl dX1_rankOf_1 ?_
  refine x_iconst (v := (0 : Int32)) C dX1_rankOf_4 (by decide) ?_
  refine x_iald (n := 2) (v := (m 15 (0 : Int32).toNatClampNeg)) C 15 rfl (by unfold vp_in; decide) rfl dX1_rankOf_5 ?_
  obtain ⟨z1, hz1⟩ : ∃ y9 : Int32, y9 = (m 15 (0 : Int32).toNatClampNeg) := ⟨_, rfl⟩
  have hf := hf.trans (g_let_eq hz1)
  have hok := g_let_p hz1 hok
  refine x_topi hz1 ?_
  by_cases c2 : z1 = (1 : Int32)
  · have hf := hf.trans (if_pos c2)
    have hok := g_ip c2 hok
    refine x_look (tgt := 32) (off := 26) C dX1_rankOf_6 rfl (by rw [c2]; rfl) (by decide) ?_
    refine x_aload_n C dX1_rankOf_32 rfl 0 rfl ?_
    refine x_get (v := .ref (q 11)) C in_X1_rankOf_1 0 rfl rfl 10 (by decide) k_X1_rankOf_42 rfl rfl dX1_rankOf_33 ?_
    refine x_iload_n C dX1_rankOf_36 rfl 1 rfl ?_
    have s3 := And.left hok
    have hok := And.right hok
    refine x_iald (n := 12) (v := (m 11 a1.toNatClampNeg)) C 11 rfl s3 rfl dX1_rankOf_37 ?_
    exact g_iret C hr rfl dX1_rankOf_38 hf.symm rfl rfl
  · have hf := hf.trans (if_neg c2)
    have hok := g_in c2 hok
    by_cases c4 : z1 = (2 : Int32)
    · have hf := hf.trans (if_pos c4)
      have hok := g_ip c4 hok
      refine x_look (tgt := 39) (off := 33) C dX1_rankOf_6 rfl (by rw [c4]; rfl) (by decide) ?_
      refine x_aload_n C dX1_rankOf_39 rfl 0 rfl ?_
      refine x_get (v := .ref (q 10)) C in_X1_rankOf_1 0 rfl rfl 9 (by decide) k_X1_rankOf_39 rfl rfl dX1_rankOf_40 ?_
      refine x_iload_n C dX1_rankOf_43 rfl 1 rfl ?_
      have s5 := And.left hok
      have hok := And.right hok
      refine x_iald (n := 12) (v := (m 10 a1.toNatClampNeg)) C 10 rfl s5 rfl dX1_rankOf_44 ?_
      refine x_bipush (v := (9 : Int32)) C dX1_rankOf_45 (by decide) ?_
      refine x_imul C dX1_rankOf_47 ?_
      refine x_aload_n C dX1_rankOf_48 rfl 0 rfl ?_
      refine x_get (v := .ref (q 9)) C in_X1_rankOf_1 0 rfl rfl 8 (by decide) k_X1_rankOf_36 rfl rfl dX1_rankOf_49 ?_
      refine x_iload_n C dX1_rankOf_52 rfl 1 rfl ?_
      have s6 := And.left hok
      have hok := And.right hok
      refine x_iald (n := 12) (v := (m 9 a1.toNatClampNeg)) C 9 rfl s6 rfl dX1_rankOf_53 ?_
      refine x_iadd C dX1_rankOf_54 ?_
      exact g_iret C hr rfl dX1_rankOf_55 hf.symm rfl rfl
    · have hf := hf.trans (if_neg c4)
      have hok := g_in c4 hok
      refine x_look (tgt := 56) (off := 50) C dX1_rankOf_6 rfl (by show Op.lookupswitch.offset [((1 : Int), (26 : Int)), ((2 : Int), (33 : Int))] _ _ = _; rw [lv_osw (a := 1) c2 rfl, lv_osw (a := 2) c4 rfl]; rfl) (by decide) ?_
      refine x_aload_n C dX1_rankOf_56 rfl 0 rfl ?_
      refine x_get (v := .ref (q 9)) C in_X1_rankOf_1 0 rfl rfl 8 (by decide) k_X1_rankOf_36 rfl rfl dX1_rankOf_57 ?_
      refine x_iload_n C dX1_rankOf_60 rfl 1 rfl ?_
      have s7 := And.left hok
      have hok := And.right hok
      refine x_iald (n := 12) (v := (m 9 a1.toNatClampNeg)) C 9 rfl s7 rfl dX1_rankOf_61 ?_
      exact g_iret C hr rfl dX1_rankOf_62 hf.symm rfl rfl
set_option maxRecDepth 20000 in
theorem in_X1_isWritten_1 : ∀ w ∈ u_ws RX1 TX1 17, w ∈ wsX1_isWritten := by decide +kernel
set_option maxRecDepth 20000 in
theorem k_X1_isWritten_9 : Cond.fieldLink RX1 9 "HintedPages$Store" "placeOfPage" "[I" ∈ wsX1_isWritten := by decide +kernel
abbrev rm_s_isWritten : Room := { frames := 0, cells := 0, slots := 0, locals := 0 }
noncomputable def f_s_isWritten (m : gM) (a1 : Int32) : Int32 := (if (m 1 a1.toNatClampNeg) = (-1 : Int32) then (0 : Int32) else (1 : Int32))
noncomputable def o_s_isWritten (m : gM) (a1 : Int32) : Prop := (vp_in a1 40) ∧ ((if (m 1 a1.toNatClampNeg) = (-1 : Int32) then True else True))
set_option maxRecDepth 100000 in
set_option maxHeartbeats 4000000 in
theorem c_s_isWritten (l : Launch) (G : gG) (q : Nat → Nat) (m : gM) (h : gN) (a1 : Int32) (hok : o_s_isWritten m a1) : gMi l yX1_isWritten wsX1_isWritten rm_s_isWritten G shS q m h [.ref (q 0), .int a1] m h (f_s_isWritten m a1) := by
  intro sz
  refine g_met (cc := cX1_isWritten) (maxL := 2) (ret := (some .boolean)) (own := RX1) (Qc := fun sz => gQi G shS q m h sz (f_s_isWritten m a1)) (by decide) rfl rfl (Nat.le_of_ble_eq_true rfl) (fun p e s m9 below meth c C hq hr => ?_)
  refine x_lv (lv' := [(0, .ref (q 0)), (1, .int a1)]) [0, 1] rfl ?_
  have hf := f_s_isWritten.eq_1 m a1
  have hok := Eq.mp (o_s_isWritten.eq_1 m a1) hok
  refine x_aload_n C dX1_isWritten_0 rfl 0 rfl ?_
  refine x_get (v := .ref (q 1)) C in_X1_isWritten_1 0 rfl rfl 0 (by decide) k_X1_isWritten_9 rfl rfl dX1_isWritten_1 ?_
  refine x_iload_n C dX1_isWritten_4 rfl 1 rfl ?_
  have s1 := And.left hok
  have hok := And.right hok
  refine x_iald (n := 40) (v := (m 1 a1.toNatClampNeg)) C 1 rfl s1 rfl dX1_isWritten_5 ?_
  refine x_iconst (v := (-1 : Int32)) C dX1_isWritten_6 (by decide) ?_
  refine x_icmp_eq (tgt := 14) C dX1_isWritten_7 (by decide) (fun c2 => ?_) (fun c2 => ?_)
  · have hf := hf.trans (if_pos c2)
    have hok := g_ip c2 hok
    refine x_iconst (v := (0 : Int32)) C dX1_isWritten_14 (by decide) ?_
    exact g_iret C hr (g_nz (Or.inl rfl)) dX1_isWritten_15 hf.symm rfl rfl
  · have hf := hf.trans (if_neg c2)
    have hok := g_in c2 hok
    refine x_iconst (v := (1 : Int32)) C dX1_isWritten_10 (by decide) ?_
    refine x_goto (tgt := 15) C dX1_isWritten_11 (by decide) ?_
    exact g_iret C hr (g_nz (Or.inr rfl)) dX1_isWritten_15 hf.symm rfl rfl
set_option maxRecDepth 20000 in
theorem in_X1_blockOf_1 : ∀ w ∈ u_ws RX1 TX1 17, w ∈ wsX1_blockOf := by decide +kernel
set_option maxRecDepth 20000 in
theorem k_X1_blockOf_9 : Cond.fieldLink RX1 9 "HintedPages$Store" "placeOfPage" "[I" ∈ wsX1_blockOf := by decide +kernel
abbrev rm_s_blockOf : Room := { frames := 1, cells := 0, slots := 0, locals := 21 }
noncomputable def f_s_blockOf (m : gM) (a1 : Int32) : Int32 := (if (f_s_isWritten m a1) = 0 then (-1 : Int32) else ((m 1 a1.toNatClampNeg) / (8 : Int32)))
noncomputable def o_s_blockOf (m : gM) (a1 : Int32) : Prop := (o_s_isWritten m a1) ∧ ((if (f_s_isWritten m a1) = 0 then True else (vp_in a1 40) ∧ (True)))
set_option maxRecDepth 100000 in
set_option maxHeartbeats 4000000 in
theorem c_s_blockOf (l : Launch) (G : gG) (q : Nat → Nat) (m : gM) (h : gN) (a1 : Int32) (hok : o_s_blockOf m a1) : gMi l yX1_blockOf wsX1_blockOf rm_s_blockOf G shS q m h [.ref (q 0), .int a1] m h (f_s_blockOf m a1) := by
  intro sz
  refine g_met (cc := cX1_blockOf) (maxL := 2) (ret := (some .int)) (own := RX1) (Qc := fun sz => gQi G shS q m h sz (f_s_blockOf m a1)) (by decide) rfl rfl (Nat.le_of_ble_eq_true rfl) (fun p e s m9 below meth c C hq hr => ?_)
  refine x_lv (lv' := [(0, .ref (q 0)), (1, .int a1)]) [0, 1] rfl ?_
  have hf := f_s_blockOf.eq_1 m a1
  have hok := Eq.mp (o_s_blockOf.eq_1 m a1) hok
  refine x_aload_n C dX1_blockOf_0 rfl 0 rfl ?_
  refine x_iload_n C dX1_blockOf_1 rfl 1 rfl ?_
  have s1 := And.left hok
  have hok := And.right hok
  refine x_callVi (n := 1) C hq gFr_same (c_s_isWritten l G q m h a1 s1) (cwV 1 C.2.2.2.2.2.1 gX1_blockOf_X1_isWritten rfl rfl rfl (by decide +kernel) ⟨Nat.le_of_ble_eq_true rfl, Nat.le_of_ble_eq_true rfl⟩) rfl rfl rfl rfl (Nat.le_of_ble_eq_true rfl) dX1_blockOf_2 (Nat.zero_le _) (Nat.zero_le _) ?_
  refine x_if_eq (tgt := 20) C dX1_blockOf_5 (by decide) (fun c2 => ?_) (fun c2 => ?_)
  · have hf := hf.trans (if_pos c2)
    have hok := g_ip c2 hok
    refine x_iconst (v := (-1 : Int32)) C dX1_blockOf_20 (by decide) ?_
    exact g_iret C hr rfl dX1_blockOf_21 hf.symm rfl rfl
  · have hf := hf.trans (if_neg c2)
    have hok := g_in c2 hok
    refine x_aload_n C dX1_blockOf_8 rfl 0 rfl ?_
    refine x_get (v := .ref (q 1)) C in_X1_blockOf_1 0 rfl rfl 0 (by decide) k_X1_blockOf_9 rfl rfl dX1_blockOf_9 ?_
    refine x_iload_n C dX1_blockOf_12 rfl 1 rfl ?_
    have s3 := And.left hok
    have hok := And.right hok
    refine x_iald (n := 40) (v := (m 1 a1.toNatClampNeg)) C 1 rfl s3 rfl dX1_blockOf_13 ?_
    refine x_bipush (v := (8 : Int32)) C dX1_blockOf_14 (by decide) ?_
    refine x_idiv C dX1_blockOf_16 (by decide) ?_
    refine x_goto (tgt := 21) C dX1_blockOf_17 (by decide) ?_
    exact g_iret C hr rfl dX1_blockOf_21 hf.symm rfl rfl
set_option maxRecDepth 20000 in
theorem in_X1_validPageAt_1 : ∀ w ∈ u_ws RX1 TX1 17, w ∈ wsX1_validPageAt := by decide +kernel
set_option maxRecDepth 20000 in
theorem k_X1_validPageAt_27 : Cond.fieldLink RX1 27 "HintedPages$Store" "pageAt" "[I" ∈ wsX1_validPageAt := by decide +kernel
set_option maxRecDepth 20000 in
theorem k_X1_validPageAt_9 : Cond.fieldLink RX1 9 "HintedPages$Store" "placeOfPage" "[I" ∈ wsX1_validPageAt := by decide +kernel
abbrev rm_s_validPageAt : Room := { frames := 0, cells := 0, slots := 0, locals := 0 }
noncomputable def f_s_validPageAt (m : gM) (a1 : Int32) : Int32 := g_let ((m 6 a1.toNatClampNeg)) (fun z2 : Int32 => (if z2 = (-1 : Int32) then (-1 : Int32) else (if (m 1 z2.toNatClampNeg) = a1 then z2 else (-1 : Int32))))
noncomputable def o_s_validPageAt (m : gM) (a1 : Int32) : Prop := (vp_in a1 96) ∧ (g_let ((m 6 a1.toNatClampNeg)) (fun z2 : Int32 => (if z2 = (-1 : Int32) then True else (vp_in z2 40) ∧ ((if (m 1 z2.toNatClampNeg) = a1 then True else True)))))
set_option maxRecDepth 100000 in
set_option maxHeartbeats 4000000 in
theorem c_s_validPageAt (l : Launch) (G : gG) (q : Nat → Nat) (m : gM) (h : gN) (a1 : Int32) (hok : o_s_validPageAt m a1) : gMi l yX1_validPageAt wsX1_validPageAt rm_s_validPageAt G shS q m h [.ref (q 0), .int a1] m h (f_s_validPageAt m a1) := by
  intro sz
  refine g_met (cc := cX1_validPageAt) (maxL := 3) (ret := (some .int)) (own := RX1) (Qc := fun sz => gQi G shS q m h sz (f_s_validPageAt m a1)) (by decide) rfl rfl (Nat.le_of_ble_eq_true rfl) (fun p e s m9 below meth c C hq hr => ?_)
  refine x_lv (lv' := [(0, .ref (q 0)), (1, .int a1)]) [0, 1] rfl ?_
  have hf := f_s_validPageAt.eq_1 m a1
  have hok := Eq.mp (o_s_validPageAt.eq_1 m a1) hok
  refine x_aload_n C dX1_validPageAt_0 rfl 0 rfl ?_
  refine x_get (v := .ref (q 6)) C in_X1_validPageAt_1 0 rfl rfl 5 (by decide) k_X1_validPageAt_27 rfl rfl dX1_validPageAt_1 ?_
  refine x_iload_n C dX1_validPageAt_4 rfl 1 rfl ?_
  have s1 := And.left hok
  have hok := And.right hok
  refine x_iald (n := 96) (v := (m 6 a1.toNatClampNeg)) C 6 rfl s1 rfl dX1_validPageAt_5 ?_
  obtain ⟨z2, hz2⟩ : ∃ y9 : Int32, y9 = (m 6 a1.toNatClampNeg) := ⟨_, rfl⟩
  have hf := hf.trans (g_let_eq hz2)
  have hok := g_let_p hz2 hok
  refine x_topi hz2 ?_
  refine x_istore_n (lv' := [(0, .ref (q 0)), (1, .int a1), (2, .int z2)]) C dX1_validPageAt_6 rfl (by decide) [1, 2, 0] rfl ?_
  refine x_iload_n C dX1_validPageAt_7 rfl 2 rfl ?_
  refine x_iconst (v := (-1 : Int32)) C dX1_validPageAt_8 (by decide) ?_
  refine x_icmp_eq (tgt := 26) C dX1_validPageAt_9 (by decide) (fun c3 => ?_) (fun c3 => ?_)
  · have hf := hf.trans (if_pos c3)
    have hok := g_ip c3 hok
    refine x_iconst (v := (-1 : Int32)) C dX1_validPageAt_26 (by decide) ?_
    exact g_iret C hr rfl dX1_validPageAt_27 hf.symm rfl rfl
  · have hf := hf.trans (if_neg c3)
    have hok := g_in c3 hok
    refine x_aload_n C dX1_validPageAt_12 rfl 0 rfl ?_
    refine x_get (v := .ref (q 1)) C in_X1_validPageAt_1 0 rfl rfl 0 (by decide) k_X1_validPageAt_9 rfl rfl dX1_validPageAt_13 ?_
    refine x_iload_n C dX1_validPageAt_16 rfl 2 rfl ?_
    have s4 := And.left hok
    have hok := And.right hok
    refine x_iald (n := 40) (v := (m 1 z2.toNatClampNeg)) C 1 rfl s4 rfl dX1_validPageAt_17 ?_
    refine x_iload_n C dX1_validPageAt_18 rfl 1 rfl ?_
    refine x_icmp_ne (tgt := 26) C dX1_validPageAt_19 (by decide) (fun c5 => ?_) (fun c5 => ?_)
    · have hf := hf.trans (if_neg c5)
      have hok := g_in c5 hok
      refine x_iconst (v := (-1 : Int32)) C dX1_validPageAt_26 (by decide) ?_
      exact g_iret C hr rfl dX1_validPageAt_27 hf.symm rfl rfl
    · have hf := hf.trans (if_pos c5)
      have hok := g_ip c5 hok
      refine x_iload_n C dX1_validPageAt_22 rfl 2 rfl ?_
      refine x_goto (tgt := 27) C dX1_validPageAt_23 (by decide) ?_
      exact g_iret C hr rfl dX1_validPageAt_27 hf.symm rfl rfl
set_option maxRecDepth 20000 in
theorem in_X1_stateOf_1 : ∀ w ∈ u_ws RX1 TX1 17, w ∈ wsX1_stateOf := by decide +kernel
set_option maxRecDepth 20000 in
theorem k_X1_stateOf_30 : Cond.fieldLink RX1 30 "HintedPages$Store" "streamOfBlock" "[I" ∈ wsX1_stateOf := by decide +kernel
set_option maxRecDepth 20000 in
theorem k_X1_stateOf_33 : Cond.fieldLink RX1 33 "HintedPages$Store" "programmedOfBlock" "[I" ∈ wsX1_stateOf := by decide +kernel
abbrev rm_s_stateOf : Room := { frames := 0, cells := 0, slots := 0, locals := 0 }
noncomputable def f_s_stateOf (m : gM) (a1 : Int32) : Int32 := (if (m 7 a1.toNatClampNeg) = (-1 : Int32) then (0 : Int32) else (if (8 : Int32) ≤ (m 8 a1.toNatClampNeg) then (2 : Int32) else (1 : Int32)))
noncomputable def o_s_stateOf (m : gM) (a1 : Int32) : Prop := (vp_in a1 12) ∧ ((if (m 7 a1.toNatClampNeg) = (-1 : Int32) then True else (vp_in a1 12) ∧ ((if (8 : Int32) ≤ (m 8 a1.toNatClampNeg) then True else True))))
set_option maxRecDepth 100000 in
set_option maxHeartbeats 4000000 in
theorem c_s_stateOf (l : Launch) (G : gG) (q : Nat → Nat) (m : gM) (h : gN) (a1 : Int32) (hok : o_s_stateOf m a1) : gMi l yX1_stateOf wsX1_stateOf rm_s_stateOf G shS q m h [.ref (q 0), .int a1] m h (f_s_stateOf m a1) := by
  intro sz
  refine g_met (cc := cX1_stateOf) (maxL := 2) (ret := (some .int)) (own := RX1) (Qc := fun sz => gQi G shS q m h sz (f_s_stateOf m a1)) (by decide) rfl rfl (Nat.le_of_ble_eq_true rfl) (fun p e s m9 below meth c C hq hr => ?_)
  refine x_lv (lv' := [(0, .ref (q 0)), (1, .int a1)]) [0, 1] rfl ?_
  have hf := f_s_stateOf.eq_1 m a1
  have hok := Eq.mp (o_s_stateOf.eq_1 m a1) hok
  refine x_aload_n C dX1_stateOf_0 rfl 0 rfl ?_
  refine x_get (v := .ref (q 7)) C in_X1_stateOf_1 0 rfl rfl 6 (by decide) k_X1_stateOf_30 rfl rfl dX1_stateOf_1 ?_
  refine x_iload_n C dX1_stateOf_4 rfl 1 rfl ?_
  have s1 := And.left hok
  have hok := And.right hok
  refine x_iald (n := 12) (v := (m 7 a1.toNatClampNeg)) C 7 rfl s1 rfl dX1_stateOf_5 ?_
  refine x_iconst (v := (-1 : Int32)) C dX1_stateOf_6 (by decide) ?_
  refine x_icmp_ne (tgt := 12) C dX1_stateOf_7 (by decide) (fun c2 => ?_) (fun c2 => ?_)
  · have hf := hf.trans (if_neg c2)
    have hok := g_in c2 hok
    refine x_aload_n C dX1_stateOf_12 rfl 0 rfl ?_
    refine x_get (v := .ref (q 8)) C in_X1_stateOf_1 0 rfl rfl 7 (by decide) k_X1_stateOf_33 rfl rfl dX1_stateOf_13 ?_
    refine x_iload_n C dX1_stateOf_16 rfl 1 rfl ?_
    have s3 := And.left hok
    have hok := And.right hok
    refine x_iald (n := 12) (v := (m 8 a1.toNatClampNeg)) C 8 rfl s3 rfl dX1_stateOf_17 ?_
    refine x_bipush (v := (8 : Int32)) C dX1_stateOf_18 (by decide) ?_
    refine x_icmp_ge (tgt := 27) C dX1_stateOf_20 (by decide) (fun c4 => ?_) (fun c4 => ?_)
    · have hf := hf.trans (if_pos c4)
      have hok := g_ip c4 hok
      refine x_iconst (v := (2 : Int32)) C dX1_stateOf_27 (by decide) ?_
      exact g_iret C hr rfl dX1_stateOf_28 hf.symm rfl rfl
    · have hf := hf.trans (if_neg c4)
      have hok := g_in c4 hok
      refine x_iconst (v := (1 : Int32)) C dX1_stateOf_23 (by decide) ?_
      refine x_goto (tgt := 28) C dX1_stateOf_24 (by decide) ?_
      exact g_iret C hr rfl dX1_stateOf_28 hf.symm rfl rfl
  · have hf := hf.trans (if_pos c2)
    have hok := g_ip c2 hok
    refine x_iconst (v := (0 : Int32)) C dX1_stateOf_10 (by decide) ?_
    exact g_iret C hr rfl dX1_stateOf_11 hf.symm rfl rfl
set_option maxRecDepth 20000 in
theorem in_X1_victim_1 : ∀ w ∈ u_ws RX1 TX1 17, w ∈ wsX1_victim := by decide +kernel
set_option maxRecDepth 20000 in
theorem k_X1_victim_33 : Cond.fieldLink RX1 33 "HintedPages$Store" "programmedOfBlock" "[I" ∈ wsX1_victim := by decide +kernel
set_option maxRecDepth 20000 in
theorem k_X1_victim_36 : Cond.fieldLink RX1 36 "HintedPages$Store" "validOfBlock" "[I" ∈ wsX1_victim := by decide +kernel
abbrev rm_s_victim : Room := { frames := 1, cells := 0, slots := 0, locals := 21 }
noncomputable def L_s_victim_6 (m : gM) (z : Int32 × Int32 × Int32) : Bool × (Int32 × Int32 × Int32) := (if (12 : Int32) ≤ z.2.2 then (false, (z.1, z.2.1, z.2.2)) else (if (m 8 z.2.2.toNatClampNeg) = (8 : Int32) then (if (8 : Int32) ≤ (m 9 z.2.2.toNatClampNeg) then g_let ((z.2.2 + (1 : Int32))) (fun z7 : Int32 => (true, (z.1, z.2.1, z7))) else g_let ((f_s_rankOf m z.2.2)) (fun z9 : Int32 => (if z.1 = (-1 : Int32) then g_let ((z.2.2 + (1 : Int32))) (fun z11 : Int32 => (true, (z.2.2, z9, z11))) else (if z.2.1 ≤ z9 then g_let ((z.2.2 + (1 : Int32))) (fun z13 : Int32 => (true, (z.1, z.2.1, z13))) else g_let ((z.2.2 + (1 : Int32))) (fun z14 : Int32 => (true, (z.2.2, z9, z14))))))) else g_let ((z.2.2 + (1 : Int32))) (fun z4 : Int32 => (true, (z.1, z.2.1, z4)))))
noncomputable def K_s_victim_6 (m : gM) (z : Int32 × Int32 × Int32) : Prop := (if (12 : Int32) ≤ z.2.2 then True else (vp_in z.2.2 12) ∧ ((if (m 8 z.2.2.toNatClampNeg) = (8 : Int32) then (vp_in z.2.2 12) ∧ ((if (8 : Int32) ≤ (m 9 z.2.2.toNatClampNeg) then g_let ((z.2.2 + (1 : Int32))) (fun z7 : Int32 => True) else (o_s_rankOf m z.2.2) ∧ (g_let ((f_s_rankOf m z.2.2)) (fun z9 : Int32 => (if z.1 = (-1 : Int32) then g_let ((z.2.2 + (1 : Int32))) (fun z11 : Int32 => True) else (if z.2.1 ≤ z9 then g_let ((z.2.2 + (1 : Int32))) (fun z13 : Int32 => True) else g_let ((z.2.2 + (1 : Int32))) (fun z14 : Int32 => True))))))) else g_let ((z.2.2 + (1 : Int32))) (fun z4 : Int32 => True))))
set_option maxRecDepth 100000 in
set_option maxHeartbeats 4000000 in
theorem lp_s_victim_6 {p : Program} {l : Launch} {e : Env} {s : State} {m9 : MethodId} {args : Array Value} {below : List Frame} {meth : Method} {c : Code} {G : gG} {A : Nat → Prop} {Q : State → Prop} {q : Nat → Nat} (C : xC p s m9 args meth c G A 5 cX1_victim RX1 wsX1_victim) (hq : gD A q shS.length) (m : gM) (h : gN) : ∀ (n : Nat) (z : Int32 × Int32 × Int32), rOk (L_s_victim_6 m) (K_s_victim_6 m) n z → (∀ z' : Int32 × Int32 × Int32, run (L_s_victim_6 m) n z = z' → xJ p l e rm_s_victim s m9 args below meth c G A 5 Q 0 0 shS q m h [(0, .ref (q 0)), (1, .int z'.1), (2, .int z'.2.1), (3, .int z'.2.2)] [] 63) → xJ p l e rm_s_victim s m9 args below meth c G A 5 Q 0 0 shS q m h [(0, .ref (q 0)), (1, .int z.1), (2, .int z.2.1), (3, .int z.2.2)] [] 6 := by
  intro n
  induction n with
  | zero =>
    intro z hok _
    exact rOk_0 hok
  | succ n ih =>
    intro z hok K0
    have hnx := rOk_2 hok
    have hok := rOk_1 hok
    have hf := L_s_victim_6.eq_1 m z
    have hok := Eq.mp (K_s_victim_6.eq_1 m z) hok
    refine x_iload_n C dX1_victim_6 rfl 3 rfl ?_
    refine x_bipush (v := (12 : Int32)) C dX1_victim_7 (by decide) ?_
    refine x_icmp_ge (tgt := 63) C dX1_victim_9 (by decide) (fun c1 => ?_) (fun c1 => ?_)
    · have hf := hf.trans (if_pos c1)
      have hok := g_ip c1 hok
      exact K0 ((z.1, z.2.1, z.2.2)) (run_f hf)
    · have hf := hf.trans (if_neg c1)
      have hok := g_in c1 hok
      refine x_aload_n C dX1_victim_12 rfl 0 rfl ?_
      refine x_get (v := .ref (q 8)) C in_X1_victim_1 0 rfl rfl 7 (by decide) k_X1_victim_33 rfl rfl dX1_victim_13 ?_
      refine x_iload_n C dX1_victim_16 rfl 3 rfl ?_
      have s2 := And.left hok
      have hok := And.right hok
      refine x_iald (n := 12) (v := (m 8 z.2.2.toNatClampNeg)) C 8 rfl s2 rfl dX1_victim_17 ?_
      refine x_bipush (v := (8 : Int32)) C dX1_victim_18 (by decide) ?_
      refine x_icmp_ne (tgt := 57) C dX1_victim_20 (by decide) (fun c3 => ?_) (fun c3 => ?_)
      · have hf := hf.trans (if_neg c3)
        have hok := g_in c3 hok
        obtain ⟨z4, hz4⟩ : ∃ y9 : Int32, y9 = (z.2.2 + (1 : Int32)) := ⟨_, rfl⟩
        have hf := hf.trans (g_let_eq hz4)
        have hok := g_let_p hz4 hok
        refine x_iinc (v := z4) (lv' := [(0, .ref (q 0)), (1, .int z.1), (2, .int z.2.1), (3, .int z4)]) C dX1_victim_57 3 rfl hz4.symm (by decide) [1, 2, 3, 0] rfl ?_
        refine x_goto (tgt := 6) C dX1_victim_60 (by decide) ?_
        exact ih ((z.1, z.2.1, z4)) (rOk_t hnx hf) (fun z' hz => K0 z' ((run_t hf).trans hz))
      · have hf := hf.trans (if_pos c3)
        have hok := g_ip c3 hok
        refine x_aload_n C dX1_victim_23 rfl 0 rfl ?_
        refine x_get (v := .ref (q 9)) C in_X1_victim_1 0 rfl rfl 8 (by decide) k_X1_victim_36 rfl rfl dX1_victim_24 ?_
        refine x_iload_n C dX1_victim_27 rfl 3 rfl ?_
        have s5 := And.left hok
        have hok := And.right hok
        refine x_iald (n := 12) (v := (m 9 z.2.2.toNatClampNeg)) C 9 rfl s5 rfl dX1_victim_28 ?_
        refine x_bipush (v := (8 : Int32)) C dX1_victim_29 (by decide) ?_
        refine x_icmp_ge (tgt := 57) C dX1_victim_31 (by decide) (fun c6 => ?_) (fun c6 => ?_)
        · have hf := hf.trans (if_pos c6)
          have hok := g_ip c6 hok
          obtain ⟨z7, hz7⟩ : ∃ y9 : Int32, y9 = (z.2.2 + (1 : Int32)) := ⟨_, rfl⟩
          have hf := hf.trans (g_let_eq hz7)
          have hok := g_let_p hz7 hok
          refine x_iinc (v := z7) (lv' := [(0, .ref (q 0)), (1, .int z.1), (2, .int z.2.1), (3, .int z7)]) C dX1_victim_57 3 rfl hz7.symm (by decide) [1, 2, 3, 0] rfl ?_
          refine x_goto (tgt := 6) C dX1_victim_60 (by decide) ?_
          exact ih ((z.1, z.2.1, z7)) (rOk_t hnx hf) (fun z' hz => K0 z' ((run_t hf).trans hz))
        · have hf := hf.trans (if_neg c6)
          have hok := g_in c6 hok
          refine x_aload_n C dX1_victim_34 rfl 0 rfl ?_
          refine x_iload_n C dX1_victim_35 rfl 3 rfl ?_
          have s8 := And.left hok
          have hok := And.right hok
          refine x_callVi (n := 1) C hq gFr_same (c_s_rankOf l G q m h z.2.2 s8) (cwV 1 C.2.2.2.2.2.1 gX1_victim_X1_rankOf rfl rfl rfl (by decide +kernel) ⟨Nat.le_of_ble_eq_true rfl, Nat.le_of_ble_eq_true rfl⟩) rfl rfl rfl rfl (Nat.le_of_ble_eq_true rfl) dX1_victim_36 (Nat.zero_le _) (Nat.zero_le _) ?_
          obtain ⟨z9, hz9⟩ : ∃ y9 : Int32, y9 = (f_s_rankOf m z.2.2) := ⟨_, rfl⟩
          have hf := hf.trans (g_let_eq hz9)
          have hok := g_let_p hz9 hok
          refine x_topi hz9 ?_
          refine x_istore (lv' := [(0, .ref (q 0)), (1, .int z.1), (2, .int z.2.1), (3, .int z.2.2), (4, .int z9)]) C dX1_victim_39 (by decide) [1, 2, 3, 4, 0] rfl ?_
          refine x_iload_n C dX1_victim_41 rfl 1 rfl ?_
          refine x_iconst (v := (-1 : Int32)) C dX1_victim_42 (by decide) ?_
          refine x_icmp_eq (tgt := 52) C dX1_victim_43 (by decide) (fun c10 => ?_) (fun c10 => ?_)
          · have hf := hf.trans (if_pos c10)
            have hok := g_ip c10 hok
            refine x_iload_n C dX1_victim_52 rfl 3 rfl ?_
            refine x_istore_n (lv' := [(0, .ref (q 0)), (1, .int z.2.2), (2, .int z.2.1), (3, .int z.2.2), (4, .int z9)]) C dX1_victim_53 rfl (by decide) [1, 0, 2, 3, 4] rfl ?_
            refine x_iload C dX1_victim_54 4 rfl ?_
            refine x_istore_n (lv' := [(0, .ref (q 0)), (1, .int z.2.2), (2, .int z9), (3, .int z.2.2), (4, .int z9)]) C dX1_victim_56 rfl (by decide) [1, 2, 0, 3, 4] rfl ?_
            obtain ⟨z11, hz11⟩ : ∃ y9 : Int32, y9 = (z.2.2 + (1 : Int32)) := ⟨_, rfl⟩
            have hf := hf.trans (g_let_eq hz11)
            have hok := g_let_p hz11 hok
            refine x_iinc (v := z11) (lv' := [(0, .ref (q 0)), (1, .int z.2.2), (2, .int z9), (3, .int z11), (4, .int z9)]) C dX1_victim_57 3 rfl hz11.symm (by decide) [1, 2, 3, 0, 4] rfl ?_
            refine x_goto (tgt := 6) C dX1_victim_60 (by decide) ?_
            refine x_lv (lv' := [(0, .ref (q 0)), (1, .int z.2.2), (2, .int z9), (3, .int z11)]) [0, 1, 2, 3] rfl ?_
            exact ih ((z.2.2, z9, z11)) (rOk_t hnx hf) (fun z' hz => K0 z' ((run_t hf).trans hz))
          · have hf := hf.trans (if_neg c10)
            have hok := g_in c10 hok
            refine x_iload C dX1_victim_46 4 rfl ?_
            refine x_iload_n C dX1_victim_48 rfl 2 rfl ?_
            refine x_icmp_ge (tgt := 57) C dX1_victim_49 (by decide) (fun c12 => ?_) (fun c12 => ?_)
            · have hf := hf.trans (if_pos c12)
              have hok := g_ip c12 hok
              obtain ⟨z13, hz13⟩ : ∃ y9 : Int32, y9 = (z.2.2 + (1 : Int32)) := ⟨_, rfl⟩
              have hf := hf.trans (g_let_eq hz13)
              have hok := g_let_p hz13 hok
              refine x_iinc (v := z13) (lv' := [(0, .ref (q 0)), (1, .int z.1), (2, .int z.2.1), (3, .int z13), (4, .int z9)]) C dX1_victim_57 3 rfl hz13.symm (by decide) [1, 2, 3, 0, 4] rfl ?_
              refine x_goto (tgt := 6) C dX1_victim_60 (by decide) ?_
              refine x_lv (lv' := [(0, .ref (q 0)), (1, .int z.1), (2, .int z.2.1), (3, .int z13)]) [0, 1, 2, 3] rfl ?_
              exact ih ((z.1, z.2.1, z13)) (rOk_t hnx hf) (fun z' hz => K0 z' ((run_t hf).trans hz))
            · have hf := hf.trans (if_neg c12)
              have hok := g_in c12 hok
              refine x_iload_n C dX1_victim_52 rfl 3 rfl ?_
              refine x_istore_n (lv' := [(0, .ref (q 0)), (1, .int z.2.2), (2, .int z.2.1), (3, .int z.2.2), (4, .int z9)]) C dX1_victim_53 rfl (by decide) [1, 0, 2, 3, 4] rfl ?_
              refine x_iload C dX1_victim_54 4 rfl ?_
              refine x_istore_n (lv' := [(0, .ref (q 0)), (1, .int z.2.2), (2, .int z9), (3, .int z.2.2), (4, .int z9)]) C dX1_victim_56 rfl (by decide) [1, 2, 0, 3, 4] rfl ?_
              obtain ⟨z14, hz14⟩ : ∃ y9 : Int32, y9 = (z.2.2 + (1 : Int32)) := ⟨_, rfl⟩
              have hf := hf.trans (g_let_eq hz14)
              have hok := g_let_p hz14 hok
              refine x_iinc (v := z14) (lv' := [(0, .ref (q 0)), (1, .int z.2.2), (2, .int z9), (3, .int z14), (4, .int z9)]) C dX1_victim_57 3 rfl hz14.symm (by decide) [1, 2, 3, 0, 4] rfl ?_
              refine x_goto (tgt := 6) C dX1_victim_60 (by decide) ?_
              refine x_lv (lv' := [(0, .ref (q 0)), (1, .int z.2.2), (2, .int z9), (3, .int z14)]) [0, 1, 2, 3] rfl ?_
              exact ih ((z.2.2, z9, z14)) (rOk_t hnx hf) (fun z' hz => K0 z' ((run_t hf).trans hz))
noncomputable def f_s_victim (m : gM) : Int32 := g_let (run (L_s_victim_6 m) 400 (((-1 : Int32), (0 : Int32), (0 : Int32)))) (fun z2 : Int32 × Int32 × Int32 => z2.1)
noncomputable def o_s_victim (m : gM) : Prop := (rOk (L_s_victim_6 m) (K_s_victim_6 m) 400 (((-1 : Int32), (0 : Int32), (0 : Int32)))) ∧ (g_let (run (L_s_victim_6 m) 400 (((-1 : Int32), (0 : Int32), (0 : Int32)))) (fun z2 : Int32 × Int32 × Int32 => True))
set_option maxRecDepth 100000 in
set_option maxHeartbeats 4000000 in
theorem c_s_victim (l : Launch) (G : gG) (q : Nat → Nat) (m : gM) (h : gN) (hok : o_s_victim m) : gMi l yX1_victim wsX1_victim rm_s_victim G shS q m h [.ref (q 0)] m h (f_s_victim m) := by
  intro sz
  refine g_met (cc := cX1_victim) (maxL := 5) (ret := (some .int)) (own := RX1) (Qc := fun sz => gQi G shS q m h sz (f_s_victim m)) (by decide) rfl rfl (Nat.le_of_ble_eq_true rfl) (fun p e s m9 below meth c C hq hr => ?_)
  refine x_lv (lv' := [(0, .ref (q 0))]) [0] rfl ?_
  have hf := f_s_victim.eq_1 m
  have hok := Eq.mp (o_s_victim.eq_1 m) hok
  refine x_iconst (v := (-1 : Int32)) C dX1_victim_0 (by decide) ?_
  refine x_istore_n (lv' := [(0, .ref (q 0)), (1, .int (-1 : Int32))]) C dX1_victim_1 rfl (by decide) [1, 0] rfl ?_
  refine x_iconst (v := (0 : Int32)) C dX1_victim_2 (by decide) ?_
  refine x_istore_n (lv' := [(0, .ref (q 0)), (1, .int (-1 : Int32)), (2, .int (0 : Int32))]) C dX1_victim_3 rfl (by decide) [1, 2, 0] rfl ?_
  refine x_iconst (v := (0 : Int32)) C dX1_victim_4 (by decide) ?_
  refine x_istore_n (lv' := [(0, .ref (q 0)), (1, .int (-1 : Int32)), (2, .int (0 : Int32)), (3, .int (0 : Int32))]) C dX1_victim_5 rfl (by decide) [1, 2, 3, 0] rfl ?_
  have s1 := And.left hok
  have hok := And.right hok
  refine lp_s_victim_6 C hq m h 400 (((-1 : Int32), (0 : Int32), (0 : Int32))) s1 (fun z2 hz2 => ?_)
  have hf := hf.trans (g_let_eq hz2.symm)
  have hok := g_let_p hz2.symm hok
  refine x_iload_n C dX1_victim_63 rfl 1 rfl ?_
  exact g_iret C hr rfl dX1_victim_64 hf.symm rfl rfl
set_option maxRecDepth 20000 in
theorem in_X1_erase_1 : ∀ w ∈ u_ws RX1 TX1 17, w ∈ wsX1_erase := by decide +kernel
set_option maxRecDepth 20000 in
theorem k_X1_erase_27 : Cond.fieldLink RX1 27 "HintedPages$Store" "pageAt" "[I" ∈ wsX1_erase := by decide +kernel
set_option maxRecDepth 20000 in
theorem k_X1_erase_30 : Cond.fieldLink RX1 30 "HintedPages$Store" "streamOfBlock" "[I" ∈ wsX1_erase := by decide +kernel
set_option maxRecDepth 20000 in
theorem k_X1_erase_33 : Cond.fieldLink RX1 33 "HintedPages$Store" "programmedOfBlock" "[I" ∈ wsX1_erase := by decide +kernel
set_option maxRecDepth 20000 in
theorem k_X1_erase_36 : Cond.fieldLink RX1 36 "HintedPages$Store" "validOfBlock" "[I" ∈ wsX1_erase := by decide +kernel
set_option maxRecDepth 20000 in
theorem k_X1_erase_39 : Cond.fieldLink RX1 39 "HintedPages$Store" "erasuresOfBlock" "[I" ∈ wsX1_erase := by decide +kernel
set_option maxRecDepth 20000 in
theorem k_X1_erase_57 : Cond.fieldLink RX1 57 "HintedPages$Store" "freeBlocks" "I" ∈ wsX1_erase := by decide +kernel
abbrev rm_s_erase : Room := { frames := 0, cells := 0, slots := 0, locals := 0 }
noncomputable def L_s_erase_2 (x1 : Int32) (z : Int32 × gM) : Bool × (Int32 × gM) := (if (8 : Int32) ≤ z.1 then (false, (z.1, z.2)) else g_let (g_set z.2 6 (upd (z.2 6) ((x1 * (8 : Int32)) + z.1).toNatClampNeg (-1 : Int32))) (fun z3 : gM => g_let ((z.1 + (1 : Int32))) (fun z4 : Int32 => (true, (z4, z3)))))
noncomputable def K_s_erase_2 (x1 : Int32) (z : Int32 × gM) : Prop := (if (8 : Int32) ≤ z.1 then True else (vp_in ((x1 * (8 : Int32)) + z.1) 96) ∧ (g_let (g_set z.2 6 (upd (z.2 6) ((x1 * (8 : Int32)) + z.1).toNatClampNeg (-1 : Int32))) (fun z3 : gM => g_let ((z.1 + (1 : Int32))) (fun z4 : Int32 => True))))
set_option maxRecDepth 100000 in
set_option maxHeartbeats 4000000 in
theorem lp_s_erase_2 {p : Program} {l : Launch} {e : Env} {s : State} {m9 : MethodId} {args : Array Value} {below : List Frame} {meth : Method} {c : Code} {G : gG} {A : Nat → Prop} {Q : State → Prop} {q : Nat → Nat} (C : xC p s m9 args meth c G A 3 cX1_erase RX1 wsX1_erase) (hq : gD A q shS.length) (h : gN) (x1 : Int32) : ∀ (n : Nat) (z : Int32 × gM), rOk (L_s_erase_2 x1) (K_s_erase_2 x1) n z → (∀ z' : Int32 × gM, run (L_s_erase_2 x1) n z = z' → xJ p l e rm_s_erase s m9 args below meth c G A 3 Q 0 0 shS q z'.2 h [(0, .ref (q 0)), (1, .int x1), (2, .int z'.1)] [] 26) → xJ p l e rm_s_erase s m9 args below meth c G A 3 Q 0 0 shS q z.2 h [(0, .ref (q 0)), (1, .int x1), (2, .int z.1)] [] 2 := by
  intro n
  induction n with
  | zero =>
    intro z hok _
    exact rOk_0 hok
  | succ n ih =>
    intro z hok K0
    have hnx := rOk_2 hok
    have hok := rOk_1 hok
    have hf := L_s_erase_2.eq_1 x1 z
    have hok := Eq.mp (K_s_erase_2.eq_1 x1 z) hok
    refine x_iload_n C dX1_erase_2 rfl 2 rfl ?_
    refine x_bipush (v := (8 : Int32)) C dX1_erase_3 (by decide) ?_
    refine x_icmp_ge (tgt := 26) C dX1_erase_5 (by decide) (fun c1 => ?_) (fun c1 => ?_)
    · have hf := hf.trans (if_pos c1)
      have hok := g_ip c1 hok
      exact K0 ((z.1, z.2)) (run_f hf)
    · have hf := hf.trans (if_neg c1)
      have hok := g_in c1 hok
      refine x_aload_n C dX1_erase_8 rfl 0 rfl ?_
      refine x_get (v := .ref (q 6)) C in_X1_erase_1 0 rfl rfl 5 (by decide) k_X1_erase_27 rfl rfl dX1_erase_9 ?_
      refine x_iload_n C dX1_erase_12 rfl 1 rfl ?_
      refine x_bipush (v := (8 : Int32)) C dX1_erase_13 (by decide) ?_
      refine x_imul C dX1_erase_15 ?_
      refine x_iload_n C dX1_erase_16 rfl 2 rfl ?_
      refine x_iadd C dX1_erase_17 ?_
      refine x_iconst (v := (-1 : Int32)) C dX1_erase_18 (by decide) ?_
      have s2 := And.left hok
      have hok := And.right hok
      obtain ⟨z3, hz3⟩ : ∃ y9 : gM, y9 = g_set z.2 6 (upd (z.2 6) ((x1 * (8 : Int32)) + z.1).toNatClampNeg (-1 : Int32)) := ⟨_, rfl⟩
      have hf := hf.trans (g_let_eq hz3)
      have hok := g_let_p hz3 hok
      refine x_iast (μ' := z3) (n := 96) C hq 6 rfl s2 hz3 dX1_erase_19 ?_
      obtain ⟨z4, hz4⟩ : ∃ y9 : Int32, y9 = (z.1 + (1 : Int32)) := ⟨_, rfl⟩
      have hf := hf.trans (g_let_eq hz4)
      have hok := g_let_p hz4 hok
      refine x_iinc (v := z4) (lv' := [(0, .ref (q 0)), (1, .int x1), (2, .int z4)]) C dX1_erase_20 2 rfl hz4.symm (by decide) [1, 2, 0] rfl ?_
      refine x_goto (tgt := 2) C dX1_erase_23 (by decide) ?_
      exact ih ((z4, z3)) (rOk_t hnx hf) (fun z' hz => K0 z' ((run_t hf).trans hz))
noncomputable def f_s_erase (m : gM) (a1 : Int32) : gM := g_let (run (L_s_erase_2 a1) 400 (((0 : Int32), m))) (fun z2 : Int32 × gM => g_let (g_set z2.2 8 (upd (z2.2 8) a1.toNatClampNeg (0 : Int32))) (fun z4 : gM => g_let (g_set z4 9 (upd (z4 9) a1.toNatClampNeg (0 : Int32))) (fun z6 : gM => g_let (g_set z6 7 (upd (z6 7) a1.toNatClampNeg (-1 : Int32))) (fun z8 : gM => g_let (g_set z8 10 (upd (z8 10) a1.toNatClampNeg ((z8 10 a1.toNatClampNeg) + (1 : Int32)))) (fun z11 : gM => g_let (g_set z11 0 (upd (z11 0) 15 ((z11 0 15) + (1 : Int32)))) (fun z12 : gM => z12))))))
noncomputable def o_s_erase (m : gM) (a1 : Int32) : Prop := (rOk (L_s_erase_2 a1) (K_s_erase_2 a1) 400 (((0 : Int32), m))) ∧ (g_let (run (L_s_erase_2 a1) 400 (((0 : Int32), m))) (fun z2 : Int32 × gM => (vp_in a1 12) ∧ (g_let (g_set z2.2 8 (upd (z2.2 8) a1.toNatClampNeg (0 : Int32))) (fun z4 : gM => (vp_in a1 12) ∧ (g_let (g_set z4 9 (upd (z4 9) a1.toNatClampNeg (0 : Int32))) (fun z6 : gM => (vp_in a1 12) ∧ (g_let (g_set z6 7 (upd (z6 7) a1.toNatClampNeg (-1 : Int32))) (fun z8 : gM => (vp_in a1 12) ∧ ((vp_in a1 12) ∧ (g_let (g_set z8 10 (upd (z8 10) a1.toNatClampNeg ((z8 10 a1.toNatClampNeg) + (1 : Int32)))) (fun z11 : gM => g_let (g_set z11 0 (upd (z11 0) 15 ((z11 0 15) + (1 : Int32)))) (fun z12 : gM => True))))))))))))
set_option maxRecDepth 100000 in
set_option maxHeartbeats 4000000 in
theorem c_s_erase (l : Launch) (G : gG) (q : Nat → Nat) (m : gM) (h : gN) (a1 : Int32) (hok : o_s_erase m a1) : gMv l yX1_erase wsX1_erase rm_s_erase G shS q m h [.ref (q 0), .int a1] (f_s_erase m a1) h := by
  intro sz
  refine g_met (cc := cX1_erase) (maxL := 3) (ret := none) (own := RX1) (Qc := fun sz => gQv G shS q (f_s_erase m a1) h sz) (by decide) rfl rfl (Nat.le_of_ble_eq_true rfl) (fun p e s m9 below meth c C hq hr => ?_)
  refine x_lv (lv' := [(0, .ref (q 0)), (1, .int a1)]) [0, 1] rfl ?_
  have hf := f_s_erase.eq_1 m a1
  have hok := Eq.mp (o_s_erase.eq_1 m a1) hok
  refine x_iconst (v := (0 : Int32)) C dX1_erase_0 (by decide) ?_
  refine x_istore_n (lv' := [(0, .ref (q 0)), (1, .int a1), (2, .int (0 : Int32))]) C dX1_erase_1 rfl (by decide) [1, 2, 0] rfl ?_
  have s1 := And.left hok
  have hok := And.right hok
  refine lp_s_erase_2 C hq h a1 400 (((0 : Int32), m)) s1 (fun z2 hz2 => ?_)
  have hf := hf.trans (g_let_eq hz2.symm)
  have hok := g_let_p hz2.symm hok
  refine x_aload_n C dX1_erase_26 rfl 0 rfl ?_
  refine x_get (v := .ref (q 8)) C in_X1_erase_1 0 rfl rfl 7 (by decide) k_X1_erase_33 rfl rfl dX1_erase_27 ?_
  refine x_iload_n C dX1_erase_30 rfl 1 rfl ?_
  refine x_iconst (v := (0 : Int32)) C dX1_erase_31 (by decide) ?_
  have s3 := And.left hok
  have hok := And.right hok
  obtain ⟨z4, hz4⟩ : ∃ y9 : gM, y9 = g_set z2.2 8 (upd (z2.2 8) a1.toNatClampNeg (0 : Int32)) := ⟨_, rfl⟩
  have hf := hf.trans (g_let_eq hz4)
  have hok := g_let_p hz4 hok
  refine x_iast (μ' := z4) (n := 12) C hq 8 rfl s3 hz4 dX1_erase_32 ?_
  refine x_aload_n C dX1_erase_33 rfl 0 rfl ?_
  refine x_get (v := .ref (q 9)) C in_X1_erase_1 0 rfl rfl 8 (by decide) k_X1_erase_36 rfl rfl dX1_erase_34 ?_
  refine x_iload_n C dX1_erase_37 rfl 1 rfl ?_
  refine x_iconst (v := (0 : Int32)) C dX1_erase_38 (by decide) ?_
  have s5 := And.left hok
  have hok := And.right hok
  obtain ⟨z6, hz6⟩ : ∃ y9 : gM, y9 = g_set z4 9 (upd (z4 9) a1.toNatClampNeg (0 : Int32)) := ⟨_, rfl⟩
  have hf := hf.trans (g_let_eq hz6)
  have hok := g_let_p hz6 hok
  refine x_iast (μ' := z6) (n := 12) C hq 9 rfl s5 hz6 dX1_erase_39 ?_
  refine x_aload_n C dX1_erase_40 rfl 0 rfl ?_
  refine x_get (v := .ref (q 7)) C in_X1_erase_1 0 rfl rfl 6 (by decide) k_X1_erase_30 rfl rfl dX1_erase_41 ?_
  refine x_iload_n C dX1_erase_44 rfl 1 rfl ?_
  refine x_iconst (v := (-1 : Int32)) C dX1_erase_45 (by decide) ?_
  have s7 := And.left hok
  have hok := And.right hok
  obtain ⟨z8, hz8⟩ : ∃ y9 : gM, y9 = g_set z6 7 (upd (z6 7) a1.toNatClampNeg (-1 : Int32)) := ⟨_, rfl⟩
  have hf := hf.trans (g_let_eq hz8)
  have hok := g_let_p hz8 hok
  refine x_iast (μ' := z8) (n := 12) C hq 7 rfl s7 hz8 dX1_erase_46 ?_
  refine x_aload_n C dX1_erase_47 rfl 0 rfl ?_
  refine x_get (v := .ref (q 10)) C in_X1_erase_1 0 rfl rfl 9 (by decide) k_X1_erase_39 rfl rfl dX1_erase_48 ?_
  refine x_iload_n C dX1_erase_51 rfl 1 rfl ?_
  refine x_dup2 C dX1_erase_52 rfl rfl ?_
  have s9 := And.left hok
  have hok := And.right hok
  refine x_iald (n := 12) (v := (z8 10 a1.toNatClampNeg)) C 10 rfl s9 rfl dX1_erase_53 ?_
  refine x_iconst (v := (1 : Int32)) C dX1_erase_54 (by decide) ?_
  refine x_iadd C dX1_erase_55 ?_
  have s10 := And.left hok
  have hok := And.right hok
  obtain ⟨z11, hz11⟩ : ∃ y9 : gM, y9 = g_set z8 10 (upd (z8 10) a1.toNatClampNeg ((z8 10 a1.toNatClampNeg) + (1 : Int32))) := ⟨_, rfl⟩
  have hf := hf.trans (g_let_eq hz11)
  have hok := g_let_p hz11 hok
  refine x_iast (μ' := z11) (n := 12) C hq 10 rfl s10 hz11 dX1_erase_56 ?_
  refine x_aload_n C dX1_erase_57 rfl 0 rfl ?_
  refine x_dup C dX1_erase_58 rfl ?_
  refine x_get (v := .int (z11 0 15)) C in_X1_erase_1 0 rfl rfl 15 (by decide) k_X1_erase_57 rfl rfl dX1_erase_59 ?_
  refine x_iconst (v := (1 : Int32)) C dX1_erase_62 (by decide) ?_
  refine x_iadd C dX1_erase_63 ?_
  obtain ⟨z12, hz12⟩ : ∃ y9 : gM, y9 = g_set z11 0 (upd (z11 0) 15 ((z11 0 15) + (1 : Int32))) := ⟨_, rfl⟩
  have hf := hf.trans (g_let_eq hz12)
  have hok := g_let_p hz12 hok
  refine x_puti (μ' := z12) (ty := .int) C hq tyX1 tyX1_ok nmX1 in_X1_erase_1 0 rfl rfl 15 (by decide) k_X1_erase_57 rfl (tyX1_ok 15 (by decide)) rfl rfl rfl hz12 dX1_erase_64 ?_
  exact g_vret C hr dX1_erase_67 hf.symm rfl
set_option maxRecDepth 20000 in
theorem in_X1_collectBlock_1 : ∀ w ∈ u_ws RX1 TX1 17, w ∈ wsX1_collectBlock := by decide +kernel
set_option maxRecDepth 20000 in
theorem k_X1_collectBlock_15 : Cond.fieldLink RX1 15 "HintedPages$Store" "hintOfPage" "[I" ∈ wsX1_collectBlock := by decide +kernel
set_option maxRecDepth 20000 in
theorem k_X1_collectBlock_21 : Cond.fieldLink RX1 21 "HintedPages$Store" "copiesOfPage" "[I" ∈ wsX1_collectBlock := by decide +kernel
set_option maxRecDepth 20000 in
theorem k_X1_collectBlock_24 : Cond.fieldLink RX1 24 "HintedPages$Store" "copiesSinceWrite" "[I" ∈ wsX1_collectBlock := by decide +kernel
set_option maxRecDepth 20000 in
theorem k_X1_collectBlock_51 : Cond.fieldLink RX1 51 "HintedPages$Store" "copiesOfStream" "[I" ∈ wsX1_collectBlock := by decide +kernel
abbrev rm_s_collectBlock : Room := { frames := 1, cells := 0, slots := 0, locals := 25 }
noncomputable def L_s_collectBlock_2 (x1 : Int32) (z : Int32 × gM) : Bool × (Int32 × gM) := (if (8 : Int32) ≤ z.1 then (false, (z.1, z.2)) else g_let ((f_s_validPageAt z.2 ((x1 * (8 : Int32)) + z.1))) (fun z3 : Int32 => (if z3 = (-1 : Int32) then g_let ((z.1 + (1 : Int32))) (fun z5 : Int32 => (true, (z5, z.2))) else g_let (g_set z.2 4 (upd (z.2 4) z3.toNatClampNeg ((z.2 4 z3.toNatClampNeg) + (1 : Int32)))) (fun z8 : gM => g_let (g_set z8 5 (upd (z8 5) z3.toNatClampNeg ((z8 5 z3.toNatClampNeg) + (1 : Int32)))) (fun z11 : gM => g_let (g_set z11 14 (upd (z11 14) (z11 2 z3.toNatClampNeg).toNatClampNeg ((z11 14 (z11 2 z3.toNatClampNeg).toNatClampNeg) + (1 : Int32)))) (fun z15 : gM => g_let (f_s_openBlock z15 (4 : Int32)) (fun z17 : Int32 × gM => g_let (f_s_program z17.2 z3 (4 : Int32) z17.1) (fun z19 : gM => g_let ((z.1 + (1 : Int32))) (fun z20 : Int32 => (true, (z20, z19)))))))))))
noncomputable def K_s_collectBlock_2 (x1 : Int32) (z : Int32 × gM) : Prop := (if (8 : Int32) ≤ z.1 then True else (o_s_validPageAt z.2 ((x1 * (8 : Int32)) + z.1)) ∧ (g_let ((f_s_validPageAt z.2 ((x1 * (8 : Int32)) + z.1))) (fun z3 : Int32 => (if z3 = (-1 : Int32) then g_let ((z.1 + (1 : Int32))) (fun z5 : Int32 => True) else (vp_in z3 40) ∧ ((vp_in z3 40) ∧ (g_let (g_set z.2 4 (upd (z.2 4) z3.toNatClampNeg ((z.2 4 z3.toNatClampNeg) + (1 : Int32)))) (fun z8 : gM => (vp_in z3 40) ∧ ((vp_in z3 40) ∧ (g_let (g_set z8 5 (upd (z8 5) z3.toNatClampNeg ((z8 5 z3.toNatClampNeg) + (1 : Int32)))) (fun z11 : gM => (vp_in z3 40) ∧ ((vp_in (z11 2 z3.toNatClampNeg) 5) ∧ ((vp_in (z11 2 z3.toNatClampNeg) 5) ∧ (g_let (g_set z11 14 (upd (z11 14) (z11 2 z3.toNatClampNeg).toNatClampNeg ((z11 14 (z11 2 z3.toNatClampNeg).toNatClampNeg) + (1 : Int32)))) (fun z15 : gM => (o_s_openBlock z15 (4 : Int32)) ∧ (g_let (f_s_openBlock z15 (4 : Int32)) (fun z17 : Int32 × gM => (o_s_program z17.2 z3 (4 : Int32) z17.1) ∧ (g_let (f_s_program z17.2 z3 (4 : Int32) z17.1) (fun z19 : gM => g_let ((z.1 + (1 : Int32))) (fun z20 : Int32 => True)))))))))))))))))))
set_option maxRecDepth 100000 in
set_option maxHeartbeats 4000000 in
theorem lp_s_collectBlock_2 {p : Program} {l : Launch} {e : Env} {s : State} {m9 : MethodId} {args : Array Value} {below : List Frame} {meth : Method} {c : Code} {G : gG} {A : Nat → Prop} {Q : State → Prop} {q : Nat → Nat} (C : xC p s m9 args meth c G A 4 cX1_collectBlock RX1 wsX1_collectBlock) (hq : gD A q shS.length) (h : gN) (x1 : Int32) : ∀ (n : Nat) (z : Int32 × gM), rOk (L_s_collectBlock_2 x1) (K_s_collectBlock_2 x1) n z → (∀ z' : Int32 × gM, run (L_s_collectBlock_2 x1) n z = z' → xJ p l e rm_s_collectBlock s m9 args below meth c G A 4 Q 0 0 shS q z'.2 h [(0, .ref (q 0)), (1, .int x1), (2, .int z'.1)] [] 76) → xJ p l e rm_s_collectBlock s m9 args below meth c G A 4 Q 0 0 shS q z.2 h [(0, .ref (q 0)), (1, .int x1), (2, .int z.1)] [] 2 := by
  intro n
  induction n with
  | zero =>
    intro z hok _
    exact rOk_0 hok
  | succ n ih =>
    intro z hok K0
    have hnx := rOk_2 hok
    have hok := rOk_1 hok
    have hf := L_s_collectBlock_2.eq_1 x1 z
    have hok := Eq.mp (K_s_collectBlock_2.eq_1 x1 z) hok
    refine x_iload_n C dX1_collectBlock_2 rfl 2 rfl ?_
    refine x_bipush (v := (8 : Int32)) C dX1_collectBlock_3 (by decide) ?_
    refine x_icmp_ge (tgt := 76) C dX1_collectBlock_5 (by decide) (fun c1 => ?_) (fun c1 => ?_)
    · have hf := hf.trans (if_pos c1)
      have hok := g_ip c1 hok
      exact K0 ((z.1, z.2)) (run_f hf)
    · have hf := hf.trans (if_neg c1)
      have hok := g_in c1 hok
      refine x_aload_n C dX1_collectBlock_8 rfl 0 rfl ?_
      refine x_iload_n C dX1_collectBlock_9 rfl 1 rfl ?_
      refine x_bipush (v := (8 : Int32)) C dX1_collectBlock_10 (by decide) ?_
      refine x_imul C dX1_collectBlock_12 ?_
      refine x_iload_n C dX1_collectBlock_13 rfl 2 rfl ?_
      refine x_iadd C dX1_collectBlock_14 ?_
      have s2 := And.left hok
      have hok := And.right hok
      refine x_callVi (n := 1) C hq gFr_same (c_s_validPageAt l G q z.2 h ((x1 * (8 : Int32)) + z.1) s2) (cwV 1 C.2.2.2.2.2.1 gX1_collectBlock_X1_validPageAt rfl rfl rfl (by decide +kernel) ⟨Nat.le_of_ble_eq_true rfl, Nat.le_of_ble_eq_true rfl⟩) rfl rfl rfl rfl (Nat.le_of_ble_eq_true rfl) dX1_collectBlock_15 (Nat.zero_le _) (Nat.zero_le _) ?_
      obtain ⟨z3, hz3⟩ : ∃ y9 : Int32, y9 = (f_s_validPageAt z.2 ((x1 * (8 : Int32)) + z.1)) := ⟨_, rfl⟩
      have hf := hf.trans (g_let_eq hz3)
      have hok := g_let_p hz3 hok
      refine x_topi hz3 ?_
      refine x_istore_n (lv' := [(0, .ref (q 0)), (1, .int x1), (2, .int z.1), (3, .int z3)]) C dX1_collectBlock_18 rfl (by decide) [1, 2, 3, 0] rfl ?_
      refine x_iload_n C dX1_collectBlock_19 rfl 3 rfl ?_
      refine x_iconst (v := (-1 : Int32)) C dX1_collectBlock_20 (by decide) ?_
      refine x_icmp_eq (tgt := 70) C dX1_collectBlock_21 (by decide) (fun c4 => ?_) (fun c4 => ?_)
      · have hf := hf.trans (if_pos c4)
        have hok := g_ip c4 hok
        obtain ⟨z5, hz5⟩ : ∃ y9 : Int32, y9 = (z.1 + (1 : Int32)) := ⟨_, rfl⟩
        have hf := hf.trans (g_let_eq hz5)
        have hok := g_let_p hz5 hok
        refine x_iinc (v := z5) (lv' := [(0, .ref (q 0)), (1, .int x1), (2, .int z5), (3, .int z3)]) C dX1_collectBlock_70 2 rfl hz5.symm (by decide) [1, 2, 0, 3] rfl ?_
        refine x_goto (tgt := 2) C dX1_collectBlock_73 (by decide) ?_
        refine x_lv (lv' := [(0, .ref (q 0)), (1, .int x1), (2, .int z5)]) [0, 1, 2] rfl ?_
        exact ih ((z5, z.2)) (rOk_t hnx hf) (fun z' hz => K0 z' ((run_t hf).trans hz))
      · have hf := hf.trans (if_neg c4)
        have hok := g_in c4 hok
        refine x_aload_n C dX1_collectBlock_24 rfl 0 rfl ?_
        refine x_get (v := .ref (q 4)) C in_X1_collectBlock_1 0 rfl rfl 3 (by decide) k_X1_collectBlock_21 rfl rfl dX1_collectBlock_25 ?_
        refine x_iload_n C dX1_collectBlock_28 rfl 3 rfl ?_
        refine x_dup2 C dX1_collectBlock_29 rfl rfl ?_
        have s6 := And.left hok
        have hok := And.right hok
        refine x_iald (n := 40) (v := (z.2 4 z3.toNatClampNeg)) C 4 rfl s6 rfl dX1_collectBlock_30 ?_
        refine x_iconst (v := (1 : Int32)) C dX1_collectBlock_31 (by decide) ?_
        refine x_iadd C dX1_collectBlock_32 ?_
        have s7 := And.left hok
        have hok := And.right hok
        obtain ⟨z8, hz8⟩ : ∃ y9 : gM, y9 = g_set z.2 4 (upd (z.2 4) z3.toNatClampNeg ((z.2 4 z3.toNatClampNeg) + (1 : Int32))) := ⟨_, rfl⟩
        have hf := hf.trans (g_let_eq hz8)
        have hok := g_let_p hz8 hok
        refine x_iast (μ' := z8) (n := 40) C hq 4 rfl s7 hz8 dX1_collectBlock_33 ?_
        refine x_aload_n C dX1_collectBlock_34 rfl 0 rfl ?_
        refine x_get (v := .ref (q 5)) C in_X1_collectBlock_1 0 rfl rfl 4 (by decide) k_X1_collectBlock_24 rfl rfl dX1_collectBlock_35 ?_
        refine x_iload_n C dX1_collectBlock_38 rfl 3 rfl ?_
        refine x_dup2 C dX1_collectBlock_39 rfl rfl ?_
        have s9 := And.left hok
        have hok := And.right hok
        refine x_iald (n := 40) (v := (z8 5 z3.toNatClampNeg)) C 5 rfl s9 rfl dX1_collectBlock_40 ?_
        refine x_iconst (v := (1 : Int32)) C dX1_collectBlock_41 (by decide) ?_
        refine x_iadd C dX1_collectBlock_42 ?_
        have s10 := And.left hok
        have hok := And.right hok
        obtain ⟨z11, hz11⟩ : ∃ y9 : gM, y9 = g_set z8 5 (upd (z8 5) z3.toNatClampNeg ((z8 5 z3.toNatClampNeg) + (1 : Int32))) := ⟨_, rfl⟩
        have hf := hf.trans (g_let_eq hz11)
        have hok := g_let_p hz11 hok
        refine x_iast (μ' := z11) (n := 40) C hq 5 rfl s10 hz11 dX1_collectBlock_43 ?_
        refine x_aload_n C dX1_collectBlock_44 rfl 0 rfl ?_
        refine x_get (v := .ref (q 14)) C in_X1_collectBlock_1 0 rfl rfl 13 (by decide) k_X1_collectBlock_51 rfl rfl dX1_collectBlock_45 ?_
        refine x_aload_n C dX1_collectBlock_48 rfl 0 rfl ?_
        refine x_get (v := .ref (q 2)) C in_X1_collectBlock_1 0 rfl rfl 1 (by decide) k_X1_collectBlock_15 rfl rfl dX1_collectBlock_49 ?_
        refine x_iload_n C dX1_collectBlock_52 rfl 3 rfl ?_
        have s12 := And.left hok
        have hok := And.right hok
        refine x_iald (n := 40) (v := (z11 2 z3.toNatClampNeg)) C 2 rfl s12 rfl dX1_collectBlock_53 ?_
        refine x_dup2 C dX1_collectBlock_54 rfl rfl ?_
        have s13 := And.left hok
        have hok := And.right hok
        refine x_iald (n := 5) (v := (z11 14 (z11 2 z3.toNatClampNeg).toNatClampNeg)) C 14 rfl s13 rfl dX1_collectBlock_55 ?_
        refine x_iconst (v := (1 : Int32)) C dX1_collectBlock_56 (by decide) ?_
        refine x_iadd C dX1_collectBlock_57 ?_
        have s14 := And.left hok
        have hok := And.right hok
        obtain ⟨z15, hz15⟩ : ∃ y9 : gM, y9 = g_set z11 14 (upd (z11 14) (z11 2 z3.toNatClampNeg).toNatClampNeg ((z11 14 (z11 2 z3.toNatClampNeg).toNatClampNeg) + (1 : Int32))) := ⟨_, rfl⟩
        have hf := hf.trans (g_let_eq hz15)
        have hok := g_let_p hz15 hok
        refine x_iast (μ' := z15) (n := 5) C hq 14 rfl s14 hz15 dX1_collectBlock_58 ?_
        refine x_aload_n C dX1_collectBlock_59 rfl 0 rfl ?_
        refine x_iload_n C dX1_collectBlock_60 rfl 3 rfl ?_
        refine x_iconst (v := (4 : Int32)) C dX1_collectBlock_61 (by decide) ?_
        refine x_aload_n C dX1_collectBlock_62 rfl 0 rfl ?_
        refine x_iconst (v := (4 : Int32)) C dX1_collectBlock_63 (by decide) ?_
        have s16 := And.left hok
        have hok := And.right hok
        obtain ⟨z17, hz17⟩ : ∃ y9 : Int32 × gM, y9 = f_s_openBlock z15 (4 : Int32) := ⟨_, rfl⟩
        have hf := hf.trans (g_let_eq hz17)
        have hok := g_let_p hz17 hok
        have hmz17 : gMi l yX1_openBlock wsX1_openBlock rm_s_openBlock G shS q z15 h [.ref (q 0), .int (4 : Int32)] z17.2 h z17.1 := by rw [hz17]; exact c_s_openBlock l G q z15 h (4 : Int32) s16
        refine x_callVi (n := 1) C hq gFr_same (hmz17) (cwV 1 C.2.2.2.2.2.1 gX1_collectBlock_X1_openBlock rfl rfl rfl (by decide +kernel) ⟨Nat.le_of_ble_eq_true rfl, Nat.le_of_ble_eq_true rfl⟩) rfl rfl rfl rfl (Nat.le_of_ble_eq_true rfl) dX1_collectBlock_64 (Nat.zero_le _) (Nat.zero_le _) ?_
        have s18 := And.left hok
        have hok := And.right hok
        obtain ⟨z19, hz19⟩ : ∃ y9 : gM, y9 = f_s_program z17.2 z3 (4 : Int32) z17.1 := ⟨_, rfl⟩
        have hf := hf.trans (g_let_eq hz19)
        have hok := g_let_p hz19 hok
        have hmz19 : gMv l yX1_program wsX1_program rm_s_program G shS q z17.2 h [.ref (q 0), .int z3, .int (4 : Int32), .int z17.1] z19 h := by rw [hz19]; exact c_s_program l G q z17.2 h z3 (4 : Int32) z17.1 s18
        refine x_callVv (n := 3) C hq gFr_same (hmz19) (cwV 3 C.2.2.2.2.2.1 gX1_collectBlock_X1_program rfl rfl rfl (by decide +kernel) ⟨Nat.le_of_ble_eq_true rfl, Nat.le_of_ble_eq_true rfl⟩) rfl rfl rfl rfl (Nat.le_of_ble_eq_true rfl) dX1_collectBlock_67 (Nat.zero_le _) (Nat.zero_le _) ?_
        obtain ⟨z20, hz20⟩ : ∃ y9 : Int32, y9 = (z.1 + (1 : Int32)) := ⟨_, rfl⟩
        have hf := hf.trans (g_let_eq hz20)
        have hok := g_let_p hz20 hok
        refine x_iinc (v := z20) (lv' := [(0, .ref (q 0)), (1, .int x1), (2, .int z20), (3, .int z3)]) C dX1_collectBlock_70 2 rfl hz20.symm (by decide) [1, 2, 0, 3] rfl ?_
        refine x_goto (tgt := 2) C dX1_collectBlock_73 (by decide) ?_
        refine x_lv (lv' := [(0, .ref (q 0)), (1, .int x1), (2, .int z20)]) [0, 1, 2] rfl ?_
        exact ih ((z20, z19)) (rOk_t hnx hf) (fun z' hz => K0 z' ((run_t hf).trans hz))
noncomputable def f_s_collectBlock (m : gM) (a1 : Int32) : gM := g_let (run (L_s_collectBlock_2 a1) 400 (((0 : Int32), m))) (fun z2 : Int32 × gM => g_let (f_s_erase z2.2 a1) (fun z4 : gM => z4))
noncomputable def o_s_collectBlock (m : gM) (a1 : Int32) : Prop := (rOk (L_s_collectBlock_2 a1) (K_s_collectBlock_2 a1) 400 (((0 : Int32), m))) ∧ (g_let (run (L_s_collectBlock_2 a1) 400 (((0 : Int32), m))) (fun z2 : Int32 × gM => (o_s_erase z2.2 a1) ∧ (g_let (f_s_erase z2.2 a1) (fun z4 : gM => True))))
set_option maxRecDepth 100000 in
set_option maxHeartbeats 4000000 in
theorem c_s_collectBlock (l : Launch) (G : gG) (q : Nat → Nat) (m : gM) (h : gN) (a1 : Int32) (hok : o_s_collectBlock m a1) : gMv l yX1_collectBlock wsX1_collectBlock rm_s_collectBlock G shS q m h [.ref (q 0), .int a1] (f_s_collectBlock m a1) h := by
  intro sz
  refine g_met (cc := cX1_collectBlock) (maxL := 4) (ret := none) (own := RX1) (Qc := fun sz => gQv G shS q (f_s_collectBlock m a1) h sz) (by decide) rfl rfl (Nat.le_of_ble_eq_true rfl) (fun p e s m9 below meth c C hq hr => ?_)
  refine x_lv (lv' := [(0, .ref (q 0)), (1, .int a1)]) [0, 1] rfl ?_
  have hf := f_s_collectBlock.eq_1 m a1
  have hok := Eq.mp (o_s_collectBlock.eq_1 m a1) hok
  refine x_iconst (v := (0 : Int32)) C dX1_collectBlock_0 (by decide) ?_
  refine x_istore_n (lv' := [(0, .ref (q 0)), (1, .int a1), (2, .int (0 : Int32))]) C dX1_collectBlock_1 rfl (by decide) [1, 2, 0] rfl ?_
  have s1 := And.left hok
  have hok := And.right hok
  refine lp_s_collectBlock_2 C hq h a1 400 (((0 : Int32), m)) s1 (fun z2 hz2 => ?_)
  have hf := hf.trans (g_let_eq hz2.symm)
  have hok := g_let_p hz2.symm hok
  refine x_aload_n C dX1_collectBlock_76 rfl 0 rfl ?_
  refine x_iload_n C dX1_collectBlock_77 rfl 1 rfl ?_
  have s3 := And.left hok
  have hok := And.right hok
  obtain ⟨z4, hz4⟩ : ∃ y9 : gM, y9 = f_s_erase z2.2 a1 := ⟨_, rfl⟩
  have hf := hf.trans (g_let_eq hz4)
  have hok := g_let_p hz4 hok
  have hmz4 : gMv l yX1_erase wsX1_erase rm_s_erase G shS q z2.2 h [.ref (q 0), .int a1] z4 h := by rw [hz4]; exact c_s_erase l G q z2.2 h a1 s3
  refine x_callVv (n := 1) C hq gFr_same (hmz4) (cwV 1 C.2.2.2.2.2.1 gX1_collectBlock_X1_erase rfl rfl rfl (by decide +kernel) ⟨Nat.le_of_ble_eq_true rfl, Nat.le_of_ble_eq_true rfl⟩) rfl rfl rfl rfl (Nat.le_of_ble_eq_true rfl) dX1_collectBlock_78 (Nat.zero_le _) (Nat.zero_le _) ?_
  exact g_vret C hr dX1_collectBlock_81 hf.symm rfl
set_option maxRecDepth 20000 in
theorem in_X1_collectVictims_1 : ∀ w ∈ u_ws RX1 TX1 17, w ∈ wsX1_collectVictims := by decide +kernel
set_option maxRecDepth 20000 in
theorem kc_X1_collectVictims_105 : Cond.constant RX1 105 (1000000) ∈ wsX1_collectVictims := by decide +kernel
set_option maxRecDepth 20000 in
theorem k_X1_collectVictims_57 : Cond.fieldLink RX1 57 "HintedPages$Store" "freeBlocks" "I" ∈ wsX1_collectVictims := by decide +kernel
abbrev rm_s_collectVictims : Room := { frames := 2, cells := 0, slots := 0, locals := 48 }
noncomputable def L_s_collectVictims_2 (x1 : Int32) (z : Int32 × gM × Nat) : Bool × (Int32 × gM × Nat) := (if x1 ≤ (z.2.1 0 15) then (false, (z.1, z.2.1, 0)) else (if (1000000 : Int32) ≤ z.1 then (false, (z.1, z.2.1, 0)) else g_let ((f_s_victim z.2.1)) (fun z4 : Int32 => (if z4 = (-1 : Int32) then (false, (z.1, z.2.1, 1)) else g_let (f_s_collectBlock z.2.1 z4) (fun z7 : gM => g_let ((z.1 + (1 : Int32))) (fun z8 : Int32 => (true, (z8, z7, 0))))))))
noncomputable def K_s_collectVictims_2 (x1 : Int32) (z : Int32 × gM × Nat) : Prop := (if x1 ≤ (z.2.1 0 15) then True else (if (1000000 : Int32) ≤ z.1 then True else (o_s_victim z.2.1) ∧ (g_let ((f_s_victim z.2.1)) (fun z4 : Int32 => (if z4 = (-1 : Int32) then True else (o_s_collectBlock z.2.1 z4) ∧ (g_let (f_s_collectBlock z.2.1 z4) (fun z7 : gM => g_let ((z.1 + (1 : Int32))) (fun z8 : Int32 => True))))))))
set_option maxRecDepth 100000 in
set_option maxHeartbeats 4000000 in
theorem lp_s_collectVictims_2 {p : Program} {l : Launch} {e : Env} {s : State} {m9 : MethodId} {args : Array Value} {below : List Frame} {meth : Method} {c : Code} {G : gG} {A : Nat → Prop} {Q : State → Prop} {q : Nat → Nat} (C : xC p s m9 args meth c G A 4 cX1_collectVictims RX1 wsX1_collectVictims) (hq : gD A q shS.length) (h : gN) (x1 : Int32) : ∀ (n : Nat) (z : Int32 × gM × Nat), rOk (L_s_collectVictims_2 x1) (K_s_collectVictims_2 x1) n z → (∀ z' : Int32 × gM × Nat, run (L_s_collectVictims_2 x1) n z = z' → z'.2.2 = (0 : Nat) → xJ p l e rm_s_collectVictims s m9 args below meth c G A 4 Q 0 0 shS q z'.2.1 h [(0, .ref (q 0)), (1, .int x1), (2, .int z'.1)] [] 40) → (∀ z' : Int32 × gM × Nat, run (L_s_collectVictims_2 x1) n z = z' → z'.2.2 = (1 : Nat) → xJ p l e rm_s_collectVictims s m9 args below meth c G A 4 Q 0 0 shS q z'.2.1 h [(0, .ref (q 0)), (1, .int x1), (2, .int z'.1)] [] 26) → xJ p l e rm_s_collectVictims s m9 args below meth c G A 4 Q 0 0 shS q z.2.1 h [(0, .ref (q 0)), (1, .int x1), (2, .int z.1)] [] 2 := by
  intro n
  induction n with
  | zero =>
    intro z hok _ _
    exact rOk_0 hok
  | succ n ih =>
    intro z hok K0 K1
    have hnx := rOk_2 hok
    have hok := rOk_1 hok
    have hf := L_s_collectVictims_2.eq_1 x1 z
    have hok := Eq.mp (K_s_collectVictims_2.eq_1 x1 z) hok
    refine x_aload_n C dX1_collectVictims_2 rfl 0 rfl ?_
    refine x_get (v := .int (z.2.1 0 15)) C in_X1_collectVictims_1 0 rfl rfl 15 (by decide) k_X1_collectVictims_57 rfl rfl dX1_collectVictims_3 ?_
    refine x_iload_n C dX1_collectVictims_6 rfl 1 rfl ?_
    refine x_icmp_ge (tgt := 40) C dX1_collectVictims_7 (by decide) (fun c1 => ?_) (fun c1 => ?_)
    · have hf := hf.trans (if_pos c1)
      have hok := g_ip c1 hok
      exact K0 ((z.1, z.2.1, 0)) (run_f hf) rfl
    · have hf := hf.trans (if_neg c1)
      have hok := g_in c1 hok
      refine x_iload_n C dX1_collectVictims_10 rfl 2 rfl ?_
      refine x_ldc (v := (1000000 : Int32)) C kc_X1_collectVictims_105 dX1_collectVictims_11 ?_
      refine x_icmp_ge (tgt := 40) C dX1_collectVictims_13 (by decide) (fun c2 => ?_) (fun c2 => ?_)
      · have hf := hf.trans (if_pos c2)
        have hok := g_ip c2 hok
        exact K0 ((z.1, z.2.1, 0)) (run_f hf) rfl
      · have hf := hf.trans (if_neg c2)
        have hok := g_in c2 hok
        refine x_aload_n C dX1_collectVictims_16 rfl 0 rfl ?_
        have s3 := And.left hok
        have hok := And.right hok
        refine x_callVi (n := 0) C hq gFr_same (c_s_victim l G q z.2.1 h s3) (cwV 0 C.2.2.2.2.2.1 gX1_collectVictims_X1_victim rfl rfl rfl (by decide +kernel) ⟨Nat.le_of_ble_eq_true rfl, Nat.le_of_ble_eq_true rfl⟩) rfl rfl rfl rfl (Nat.le_of_ble_eq_true rfl) dX1_collectVictims_17 (Nat.zero_le _) (Nat.zero_le _) ?_
        obtain ⟨z4, hz4⟩ : ∃ y9 : Int32, y9 = (f_s_victim z.2.1) := ⟨_, rfl⟩
        have hf := hf.trans (g_let_eq hz4)
        have hok := g_let_p hz4 hok
        refine x_topi hz4 ?_
        refine x_istore_n (lv' := [(0, .ref (q 0)), (1, .int x1), (2, .int z.1), (3, .int z4)]) C dX1_collectVictims_20 rfl (by decide) [1, 2, 3, 0] rfl ?_
        refine x_iload_n C dX1_collectVictims_21 rfl 3 rfl ?_
        refine x_iconst (v := (-1 : Int32)) C dX1_collectVictims_22 (by decide) ?_
        refine x_icmp_ne (tgt := 29) C dX1_collectVictims_23 (by decide) (fun c5 => ?_) (fun c5 => ?_)
        · have hf := hf.trans (if_neg c5)
          have hok := g_in c5 hok
          refine x_aload_n C dX1_collectVictims_29 rfl 0 rfl ?_
          refine x_iload_n C dX1_collectVictims_30 rfl 3 rfl ?_
          have s6 := And.left hok
          have hok := And.right hok
          obtain ⟨z7, hz7⟩ : ∃ y9 : gM, y9 = f_s_collectBlock z.2.1 z4 := ⟨_, rfl⟩
          have hf := hf.trans (g_let_eq hz7)
          have hok := g_let_p hz7 hok
          have hmz7 : gMv l yX1_collectBlock wsX1_collectBlock rm_s_collectBlock G shS q z.2.1 h [.ref (q 0), .int z4] z7 h := by rw [hz7]; exact c_s_collectBlock l G q z.2.1 h z4 s6
          refine x_callVv (n := 1) C hq gFr_same (hmz7) (cwV 1 C.2.2.2.2.2.1 gX1_collectVictims_X1_collectBlock rfl rfl rfl (by decide +kernel) ⟨Nat.le_of_ble_eq_true rfl, Nat.le_of_ble_eq_true rfl⟩) rfl rfl rfl rfl (Nat.le_of_ble_eq_true rfl) dX1_collectVictims_31 (Nat.zero_le _) (Nat.zero_le _) ?_
          obtain ⟨z8, hz8⟩ : ∃ y9 : Int32, y9 = (z.1 + (1 : Int32)) := ⟨_, rfl⟩
          have hf := hf.trans (g_let_eq hz8)
          have hok := g_let_p hz8 hok
          refine x_iinc (v := z8) (lv' := [(0, .ref (q 0)), (1, .int x1), (2, .int z8), (3, .int z4)]) C dX1_collectVictims_34 2 rfl hz8.symm (by decide) [1, 2, 0, 3] rfl ?_
          refine x_goto (tgt := 2) C dX1_collectVictims_37 (by decide) ?_
          refine x_lv (lv' := [(0, .ref (q 0)), (1, .int x1), (2, .int z8)]) [0, 1, 2] rfl ?_
          exact ih ((z8, z7, 0)) (rOk_t hnx hf) (fun z' hz => K0 z' ((run_t hf).trans hz)) (fun z' hz => K1 z' ((run_t hf).trans hz))
        · have hf := hf.trans (if_pos c5)
          have hok := g_ip c5 hok
          refine x_lv (lv' := [(0, .ref (q 0)), (1, .int x1), (2, .int z.1)]) [0, 1, 2] rfl ?_
          exact K1 ((z.1, z.2.1, 1)) (run_f hf) rfl
noncomputable def f_s_collectVictims (m : gM) (a1 : Int32) : Int32 × gM := g_let (run (L_s_collectVictims_2 a1) 400 (((0 : Int32), m, 0))) (fun z2 : Int32 × gM × Nat => (if z2.2.2 = (0 : Nat) then (z2.1, z2.2.1) else (z2.1, z2.2.1)))
noncomputable def o_s_collectVictims (m : gM) (a1 : Int32) : Prop := (rOk (L_s_collectVictims_2 a1) (K_s_collectVictims_2 a1) 400 (((0 : Int32), m, 0))) ∧ (g_let (run (L_s_collectVictims_2 a1) 400 (((0 : Int32), m, 0))) (fun z2 : Int32 × gM × Nat => (if z2.2.2 = (0 : Nat) then True else True)))
set_option maxRecDepth 100000 in
set_option maxHeartbeats 4000000 in
theorem c_s_collectVictims (l : Launch) (G : gG) (q : Nat → Nat) (m : gM) (h : gN) (a1 : Int32) (hok : o_s_collectVictims m a1) : gMi l yX1_collectVictims wsX1_collectVictims rm_s_collectVictims G shS q m h [.ref (q 0), .int a1] ((f_s_collectVictims m a1).2) h ((f_s_collectVictims m a1).1) := by
  intro sz
  refine g_met (cc := cX1_collectVictims) (maxL := 4) (ret := (some .int)) (own := RX1) (Qc := fun sz => gQi G shS q ((f_s_collectVictims m a1).2) h sz ((f_s_collectVictims m a1).1)) (by decide) rfl rfl (Nat.le_of_ble_eq_true rfl) (fun p e s m9 below meth c C hq hr => ?_)
  refine x_lv (lv' := [(0, .ref (q 0)), (1, .int a1)]) [0, 1] rfl ?_
  have hf := f_s_collectVictims.eq_1 m a1
  have hok := Eq.mp (o_s_collectVictims.eq_1 m a1) hok
  refine x_iconst (v := (0 : Int32)) C dX1_collectVictims_0 (by decide) ?_
  refine x_istore_n (lv' := [(0, .ref (q 0)), (1, .int a1), (2, .int (0 : Int32))]) C dX1_collectVictims_1 rfl (by decide) [1, 2, 0] rfl ?_
  have s1 := And.left hok
  have hok := And.right hok
  refine lp_s_collectVictims_2 C hq h a1 400 (((0 : Int32), m, 0)) s1 (fun z2 hz2 hc => ?_) (fun z2 hz2 hc => ?_)
  · have hf := hf.trans (g_let_eq hz2.symm)
    have hok := g_let_p hz2.symm hok
    have hf := hf.trans (if_pos hc)
    have hok := g_ip hc hok
    refine x_iload_n C dX1_collectVictims_40 rfl 2 rfl ?_
    exact g_iret C hr rfl dX1_collectVictims_41 (congrArg (fun z => z.1) hf).symm (congrArg (fun z => z.2) hf).symm rfl
  · have hf := hf.trans (g_let_eq hz2.symm)
    have hok := g_let_p hz2.symm hok
    have hf := hf.trans (if_neg (show ¬ z2.2.2 = (0 : Nat) from by rw [hc]; decide))
    have hok := g_in (show ¬ z2.2.2 = (0 : Nat) from by rw [hc]; decide) hok
    refine x_goto (tgt := 40) C dX1_collectVictims_26 (by decide) ?_
    refine x_iload_n C dX1_collectVictims_40 rfl 2 rfl ?_
    exact g_iret C hr rfl dX1_collectVictims_41 (congrArg (fun z => z.1) hf).symm (congrArg (fun z => z.2) hf).symm rfl
set_option maxRecDepth 20000 in
theorem in_X1_copies_1 : ∀ w ∈ u_ws RX1 TX1 17, w ∈ wsX1_copies := by decide +kernel
set_option maxRecDepth 20000 in
theorem k_X1_copies_48 : Cond.fieldLink RX1 48 "HintedPages$Store" "programmedOfStream" "[I" ∈ wsX1_copies := by decide +kernel
abbrev rm_s_copies : Room := { frames := 0, cells := 0, slots := 0, locals := 0 }
noncomputable def f_s_copies (m : gM) : Int32 := (m 13 (4 : Int32).toNatClampNeg)
noncomputable def o_s_copies (m : gM) : Prop := True
set_option maxRecDepth 100000 in
set_option maxHeartbeats 4000000 in
theorem c_s_copies (l : Launch) (G : gG) (q : Nat → Nat) (m : gM) (h : gN) (hok : o_s_copies m) : gMi l yX1_copies wsX1_copies rm_s_copies G shS q m h [.ref (q 0)] m h (f_s_copies m) := by
  intro sz
  refine g_met (cc := cX1_copies) (maxL := 1) (ret := (some .int)) (own := RX1) (Qc := fun sz => gQi G shS q m h sz (f_s_copies m)) (by decide) rfl rfl (Nat.le_of_ble_eq_true rfl) (fun p e s m9 below meth c C hq hr => ?_)
  refine x_lv (lv' := [(0, .ref (q 0))]) [0] rfl ?_
  have hf := f_s_copies.eq_1 m
  have hok := Eq.mp (o_s_copies.eq_1 m) hok
  refine x_aload_n C dX1_copies_0 rfl 0 rfl ?_
  refine x_get (v := .ref (q 13)) C in_X1_copies_1 0 rfl rfl 12 (by decide) k_X1_copies_48 rfl rfl dX1_copies_1 ?_
  refine x_iconst (v := (4 : Int32)) C dX1_copies_4 (by decide) ?_
  refine x_iald (n := 5) (v := (m 13 (4 : Int32).toNatClampNeg)) C 13 rfl (by unfold vp_in; decide) rfl dX1_copies_5 ?_
  exact g_iret C hr rfl dX1_copies_6 hf.symm rfl rfl
set_option maxRecDepth 20000 in
theorem in_X1_writePage_1 : ∀ w ∈ u_ws RX1 TX1 17, w ∈ wsX1_writePage := by decide +kernel
set_option maxRecDepth 20000 in
theorem k_X1_writePage_15 : Cond.fieldLink RX1 15 "HintedPages$Store" "hintOfPage" "[I" ∈ wsX1_writePage := by decide +kernel
set_option maxRecDepth 20000 in
theorem k_X1_writePage_18 : Cond.fieldLink RX1 18 "HintedPages$Store" "writesOfPage" "[I" ∈ wsX1_writePage := by decide +kernel
set_option maxRecDepth 20000 in
theorem k_X1_writePage_24 : Cond.fieldLink RX1 24 "HintedPages$Store" "copiesSinceWrite" "[I" ∈ wsX1_writePage := by decide +kernel
set_option maxRecDepth 20000 in
theorem k_X1_writePage_54 : Cond.fieldLink RX1 54 "HintedPages$Store" "settings" "[I" ∈ wsX1_writePage := by decide +kernel
abbrev rm_s_writePage : Room := { frames := 3, cells := 0, slots := 0, locals := 71 }
noncomputable def f_s_writePage (m : gM) (a1 : Int32) (a2 : Int32) : gM := g_let (f_s_collectVictims m (m 15 (1 : Int32).toNatClampNeg)) (fun z2 : Int32 × gM => g_let (g_set z2.2 2 (upd (z2.2 2) a1.toNatClampNeg a2)) (fun z4 : gM => g_let (g_set z4 5 (upd (z4 5) a1.toNatClampNeg (0 : Int32))) (fun z6 : gM => g_let (g_set z6 3 (upd (z6 3) a1.toNatClampNeg ((z6 3 a1.toNatClampNeg) + (1 : Int32)))) (fun z9 : gM => g_let (f_s_openBlock z9 a2) (fun z11 : Int32 × gM => g_let (f_s_program z11.2 a1 a2 z11.1) (fun z13 : gM => z13))))))
noncomputable def o_s_writePage (m : gM) (a1 : Int32) (a2 : Int32) : Prop := (o_s_collectVictims m (m 15 (1 : Int32).toNatClampNeg)) ∧ (g_let (f_s_collectVictims m (m 15 (1 : Int32).toNatClampNeg)) (fun z2 : Int32 × gM => (vp_in a1 40) ∧ (g_let (g_set z2.2 2 (upd (z2.2 2) a1.toNatClampNeg a2)) (fun z4 : gM => (vp_in a1 40) ∧ (g_let (g_set z4 5 (upd (z4 5) a1.toNatClampNeg (0 : Int32))) (fun z6 : gM => (vp_in a1 40) ∧ ((vp_in a1 40) ∧ (g_let (g_set z6 3 (upd (z6 3) a1.toNatClampNeg ((z6 3 a1.toNatClampNeg) + (1 : Int32)))) (fun z9 : gM => (o_s_openBlock z9 a2) ∧ (g_let (f_s_openBlock z9 a2) (fun z11 : Int32 × gM => (o_s_program z11.2 a1 a2 z11.1) ∧ (g_let (f_s_program z11.2 a1 a2 z11.1) (fun z13 : gM => True)))))))))))))
set_option maxRecDepth 100000 in
set_option maxHeartbeats 4000000 in
theorem c_s_writePage (l : Launch) (G : gG) (q : Nat → Nat) (m : gM) (h : gN) (a1 : Int32) (a2 : Int32) (hok : o_s_writePage m a1 a2) : gMv l yX1_writePage wsX1_writePage rm_s_writePage G shS q m h [.ref (q 0), .int a1, .int a2] (f_s_writePage m a1 a2) h := by
  intro sz
  refine g_met (cc := cX1_writePage) (maxL := 3) (ret := none) (own := RX1) (Qc := fun sz => gQv G shS q (f_s_writePage m a1 a2) h sz) (by decide) rfl rfl (Nat.le_of_ble_eq_true rfl) (fun p e s m9 below meth c C hq hr => ?_)
  refine x_lv (lv' := [(0, .ref (q 0)), (1, .int a1), (2, .int a2)]) [0, 1, 2] rfl ?_
  have hf := f_s_writePage.eq_1 m a1 a2
  have hok := Eq.mp (o_s_writePage.eq_1 m a1 a2) hok
  refine x_aload_n C dX1_writePage_0 rfl 0 rfl ?_
  refine x_aload_n C dX1_writePage_1 rfl 0 rfl ?_
  refine x_get (v := .ref (q 15)) C in_X1_writePage_1 0 rfl rfl 14 (by decide) k_X1_writePage_54 rfl rfl dX1_writePage_2 ?_
  refine x_iconst (v := (1 : Int32)) C dX1_writePage_5 (by decide) ?_
  refine x_iald (n := 2) (v := (m 15 (1 : Int32).toNatClampNeg)) C 15 rfl (by unfold vp_in; decide) rfl dX1_writePage_6 ?_
  have s1 := And.left hok
  have hok := And.right hok
  obtain ⟨z2, hz2⟩ : ∃ y9 : Int32 × gM, y9 = f_s_collectVictims m (m 15 (1 : Int32).toNatClampNeg) := ⟨_, rfl⟩
  have hf := hf.trans (g_let_eq hz2)
  have hok := g_let_p hz2 hok
  have hmz2 : gMi l yX1_collectVictims wsX1_collectVictims rm_s_collectVictims G shS q m h [.ref (q 0), .int (m 15 (1 : Int32).toNatClampNeg)] z2.2 h z2.1 := by rw [hz2]; exact c_s_collectVictims l G q m h (m 15 (1 : Int32).toNatClampNeg) s1
  refine x_callVi (n := 1) C hq gFr_same (hmz2) (cwV 1 C.2.2.2.2.2.1 gX1_writePage_X1_collectVictims rfl rfl rfl (by decide +kernel) ⟨Nat.le_of_ble_eq_true rfl, Nat.le_of_ble_eq_true rfl⟩) rfl rfl rfl rfl (Nat.le_of_ble_eq_true rfl) dX1_writePage_7 (Nat.zero_le _) (Nat.zero_le _) ?_
  refine x_pop C dX1_writePage_10 rfl ?_
  refine x_aload_n C dX1_writePage_11 rfl 0 rfl ?_
  refine x_get (v := .ref (q 2)) C in_X1_writePage_1 0 rfl rfl 1 (by decide) k_X1_writePage_15 rfl rfl dX1_writePage_12 ?_
  refine x_iload_n C dX1_writePage_15 rfl 1 rfl ?_
  refine x_iload_n C dX1_writePage_16 rfl 2 rfl ?_
  have s3 := And.left hok
  have hok := And.right hok
  obtain ⟨z4, hz4⟩ : ∃ y9 : gM, y9 = g_set z2.2 2 (upd (z2.2 2) a1.toNatClampNeg a2) := ⟨_, rfl⟩
  have hf := hf.trans (g_let_eq hz4)
  have hok := g_let_p hz4 hok
  refine x_iast (μ' := z4) (n := 40) C hq 2 rfl s3 hz4 dX1_writePage_17 ?_
  refine x_aload_n C dX1_writePage_18 rfl 0 rfl ?_
  refine x_get (v := .ref (q 5)) C in_X1_writePage_1 0 rfl rfl 4 (by decide) k_X1_writePage_24 rfl rfl dX1_writePage_19 ?_
  refine x_iload_n C dX1_writePage_22 rfl 1 rfl ?_
  refine x_iconst (v := (0 : Int32)) C dX1_writePage_23 (by decide) ?_
  have s5 := And.left hok
  have hok := And.right hok
  obtain ⟨z6, hz6⟩ : ∃ y9 : gM, y9 = g_set z4 5 (upd (z4 5) a1.toNatClampNeg (0 : Int32)) := ⟨_, rfl⟩
  have hf := hf.trans (g_let_eq hz6)
  have hok := g_let_p hz6 hok
  refine x_iast (μ' := z6) (n := 40) C hq 5 rfl s5 hz6 dX1_writePage_24 ?_
  refine x_aload_n C dX1_writePage_25 rfl 0 rfl ?_
  refine x_get (v := .ref (q 3)) C in_X1_writePage_1 0 rfl rfl 2 (by decide) k_X1_writePage_18 rfl rfl dX1_writePage_26 ?_
  refine x_iload_n C dX1_writePage_29 rfl 1 rfl ?_
  refine x_dup2 C dX1_writePage_30 rfl rfl ?_
  have s7 := And.left hok
  have hok := And.right hok
  refine x_iald (n := 40) (v := (z6 3 a1.toNatClampNeg)) C 3 rfl s7 rfl dX1_writePage_31 ?_
  refine x_iconst (v := (1 : Int32)) C dX1_writePage_32 (by decide) ?_
  refine x_iadd C dX1_writePage_33 ?_
  have s8 := And.left hok
  have hok := And.right hok
  obtain ⟨z9, hz9⟩ : ∃ y9 : gM, y9 = g_set z6 3 (upd (z6 3) a1.toNatClampNeg ((z6 3 a1.toNatClampNeg) + (1 : Int32))) := ⟨_, rfl⟩
  have hf := hf.trans (g_let_eq hz9)
  have hok := g_let_p hz9 hok
  refine x_iast (μ' := z9) (n := 40) C hq 3 rfl s8 hz9 dX1_writePage_34 ?_
  refine x_aload_n C dX1_writePage_35 rfl 0 rfl ?_
  refine x_iload_n C dX1_writePage_36 rfl 1 rfl ?_
  refine x_iload_n C dX1_writePage_37 rfl 2 rfl ?_
  refine x_aload_n C dX1_writePage_38 rfl 0 rfl ?_
  refine x_iload_n C dX1_writePage_39 rfl 2 rfl ?_
  have s10 := And.left hok
  have hok := And.right hok
  obtain ⟨z11, hz11⟩ : ∃ y9 : Int32 × gM, y9 = f_s_openBlock z9 a2 := ⟨_, rfl⟩
  have hf := hf.trans (g_let_eq hz11)
  have hok := g_let_p hz11 hok
  have hmz11 : gMi l yX1_openBlock wsX1_openBlock rm_s_openBlock G shS q z9 h [.ref (q 0), .int a2] z11.2 h z11.1 := by rw [hz11]; exact c_s_openBlock l G q z9 h a2 s10
  refine x_callVi (n := 1) C hq gFr_same (hmz11) (cwV 1 C.2.2.2.2.2.1 gX1_writePage_X1_openBlock rfl rfl rfl (by decide +kernel) ⟨Nat.le_of_ble_eq_true rfl, Nat.le_of_ble_eq_true rfl⟩) rfl rfl rfl rfl (Nat.le_of_ble_eq_true rfl) dX1_writePage_40 (Nat.zero_le _) (Nat.zero_le _) ?_
  have s12 := And.left hok
  have hok := And.right hok
  obtain ⟨z13, hz13⟩ : ∃ y9 : gM, y9 = f_s_program z11.2 a1 a2 z11.1 := ⟨_, rfl⟩
  have hf := hf.trans (g_let_eq hz13)
  have hok := g_let_p hz13 hok
  have hmz13 : gMv l yX1_program wsX1_program rm_s_program G shS q z11.2 h [.ref (q 0), .int a1, .int a2, .int z11.1] z13 h := by rw [hz13]; exact c_s_program l G q z11.2 h a1 a2 z11.1 s12
  refine x_callVv (n := 3) C hq gFr_same (hmz13) (cwV 3 C.2.2.2.2.2.1 gX1_writePage_X1_program rfl rfl rfl (by decide +kernel) ⟨Nat.le_of_ble_eq_true rfl, Nat.le_of_ble_eq_true rfl⟩) rfl rfl rfl rfl (Nat.le_of_ble_eq_true rfl) dX1_writePage_43 (Nat.zero_le _) (Nat.zero_le _) ?_
  exact g_vret C hr dX1_writePage_46 hf.symm rfl
abbrev rm_s_writePages : Room := { frames := 4, cells := 0, slots := 0, locals := 93 }
noncomputable def L_s_writePages_9 (x1 : Int32) (x2 : Int32) (x3 : Int32) (x4 : Int32) (z : Int32 × gM) : Bool × (Int32 × gM) := (if x2 < z.1 then (false, (z.1, z.2)) else (if (40 : Int32) ≤ z.1 then (false, (z.1, z.2)) else g_let (f_s_writePage z.2 z.1 x3) (fun z4 : gM => g_let ((z.1 + (1 : Int32))) (fun z5 : Int32 => (true, (z5, z4))))))
noncomputable def K_s_writePages_9 (x1 : Int32) (x2 : Int32) (x3 : Int32) (x4 : Int32) (z : Int32 × gM) : Prop := (if x2 < z.1 then True else (if (40 : Int32) ≤ z.1 then True else (o_s_writePage z.2 z.1 x3) ∧ (g_let (f_s_writePage z.2 z.1 x3) (fun z4 : gM => g_let ((z.1 + (1 : Int32))) (fun z5 : Int32 => True)))))
set_option maxRecDepth 100000 in
set_option maxHeartbeats 4000000 in
theorem lp_s_writePages_9 {p : Program} {l : Launch} {e : Env} {s : State} {m9 : MethodId} {args : Array Value} {below : List Frame} {meth : Method} {c : Code} {G : gG} {A : Nat → Prop} {Q : State → Prop} {q : Nat → Nat} (C : xC p s m9 args meth c G A 6 cX1_writePages RX1 wsX1_writePages) (hq : gD A q shS.length) (h : gN) (x1 : Int32) (x2 : Int32) (x3 : Int32) (x4 : Int32) : ∀ (n : Nat) (z : Int32 × gM), rOk (L_s_writePages_9 x1 x2 x3 x4) (K_s_writePages_9 x1 x2 x3 x4) n z → (∀ z' : Int32 × gM, run (L_s_writePages_9 x1 x2 x3 x4) n z = z' → xJ p l e rm_s_writePages s m9 args below meth c G A 6 Q 0 0 shS q z'.2 h [(0, .ref (q 0)), (1, .int x1), (2, .int x2), (3, .int x3), (4, .int x4), (5, .int z'.1)] [] 35) → xJ p l e rm_s_writePages s m9 args below meth c G A 6 Q 0 0 shS q z.2 h [(0, .ref (q 0)), (1, .int x1), (2, .int x2), (3, .int x3), (4, .int x4), (5, .int z.1)] [] 9 := by
  intro n
  induction n with
  | zero =>
    intro z hok _
    exact rOk_0 hok
  | succ n ih =>
    intro z hok K0
    have hnx := rOk_2 hok
    have hok := rOk_1 hok
    have hf := L_s_writePages_9.eq_1 x1 x2 x3 x4 z
    have hok := Eq.mp (K_s_writePages_9.eq_1 x1 x2 x3 x4 z) hok
    refine x_iload C dX1_writePages_9 5 rfl ?_
    refine x_iload_n C dX1_writePages_11 rfl 2 rfl ?_
    refine x_icmp_gt (tgt := 35) C dX1_writePages_12 (by decide) (fun c1 => ?_) (fun c1 => ?_)
    · have hf := hf.trans (if_pos c1)
      have hok := g_ip c1 hok
      exact K0 ((z.1, z.2)) (run_f hf)
    · have hf := hf.trans (if_neg c1)
      have hok := g_in c1 hok
      refine x_iload C dX1_writePages_15 5 rfl ?_
      refine x_bipush (v := (40 : Int32)) C dX1_writePages_17 (by decide) ?_
      refine x_icmp_ge (tgt := 35) C dX1_writePages_19 (by decide) (fun c2 => ?_) (fun c2 => ?_)
      · have hf := hf.trans (if_pos c2)
        have hok := g_ip c2 hok
        exact K0 ((z.1, z.2)) (run_f hf)
      · have hf := hf.trans (if_neg c2)
        have hok := g_in c2 hok
        refine x_aload_n C dX1_writePages_22 rfl 0 rfl ?_
        refine x_iload C dX1_writePages_23 5 rfl ?_
        refine x_iload_n C dX1_writePages_25 rfl 3 rfl ?_
        have s3 := And.left hok
        have hok := And.right hok
        obtain ⟨z4, hz4⟩ : ∃ y9 : gM, y9 = f_s_writePage z.2 z.1 x3 := ⟨_, rfl⟩
        have hf := hf.trans (g_let_eq hz4)
        have hok := g_let_p hz4 hok
        have hmz4 : gMv l yX1_writePage wsX1_writePage rm_s_writePage G shS q z.2 h [.ref (q 0), .int z.1, .int x3] z4 h := by rw [hz4]; exact c_s_writePage l G q z.2 h z.1 x3 s3
        refine x_callVv (n := 2) C hq gFr_same (hmz4) (cwV 2 C.2.2.2.2.2.1 gX1_writePages_X1_writePage rfl rfl rfl (by decide +kernel) ⟨Nat.le_of_ble_eq_true rfl, Nat.le_of_ble_eq_true rfl⟩) rfl rfl rfl rfl (Nat.le_of_ble_eq_true rfl) dX1_writePages_26 (Nat.zero_le _) (Nat.zero_le _) ?_
        obtain ⟨z5, hz5⟩ : ∃ y9 : Int32, y9 = (z.1 + (1 : Int32)) := ⟨_, rfl⟩
        have hf := hf.trans (g_let_eq hz5)
        have hok := g_let_p hz5 hok
        refine x_iinc (v := z5) (lv' := [(0, .ref (q 0)), (1, .int x1), (2, .int x2), (3, .int x3), (4, .int x4), (5, .int z5)]) C dX1_writePages_29 5 rfl hz5.symm (by decide) [1, 2, 3, 4, 5, 0] rfl ?_
        refine x_goto (tgt := 9) C dX1_writePages_32 (by decide) ?_
        exact ih ((z5, z4)) (rOk_t hnx hf) (fun z' hz => K0 z' ((run_t hf).trans hz))
noncomputable def f_s_writePages (m : gM) (a1 : Int32) (a2 : Int32) (a3 : Int32) : Int32 × gM := g_let ((f_s_copies m)) (fun z2 : Int32 => g_let (run (L_s_writePages_9 a1 a2 a3 z2) 400 ((a1, m))) (fun z4 : Int32 × gM => (((f_s_copies z4.2) - z2), z4.2)))
noncomputable def o_s_writePages (m : gM) (a1 : Int32) (a2 : Int32) (a3 : Int32) : Prop := (o_s_copies m) ∧ (g_let ((f_s_copies m)) (fun z2 : Int32 => (rOk (L_s_writePages_9 a1 a2 a3 z2) (K_s_writePages_9 a1 a2 a3 z2) 400 ((a1, m))) ∧ (g_let (run (L_s_writePages_9 a1 a2 a3 z2) 400 ((a1, m))) (fun z4 : Int32 × gM => (o_s_copies z4.2) ∧ (True)))))
set_option maxRecDepth 100000 in
set_option maxHeartbeats 4000000 in
theorem c_s_writePages (l : Launch) (G : gG) (q : Nat → Nat) (m : gM) (h : gN) (a1 : Int32) (a2 : Int32) (a3 : Int32) (hok : o_s_writePages m a1 a2 a3) : gMi l yX1_writePages wsX1_writePages rm_s_writePages G shS q m h [.ref (q 0), .int a1, .int a2, .int a3] ((f_s_writePages m a1 a2 a3).2) h ((f_s_writePages m a1 a2 a3).1) := by
  intro sz
  refine g_met (cc := cX1_writePages) (maxL := 6) (ret := (some .int)) (own := RX1) (Qc := fun sz => gQi G shS q ((f_s_writePages m a1 a2 a3).2) h sz ((f_s_writePages m a1 a2 a3).1)) (by decide) rfl rfl (Nat.le_of_ble_eq_true rfl) (fun p e s m9 below meth c C hq hr => ?_)
  refine x_lv (lv' := [(0, .ref (q 0)), (1, .int a1), (2, .int a2), (3, .int a3)]) [0, 1, 2, 3] rfl ?_
  have hf := f_s_writePages.eq_1 m a1 a2 a3
  have hok := Eq.mp (o_s_writePages.eq_1 m a1 a2 a3) hok
  refine x_aload_n C dX1_writePages_0 rfl 0 rfl ?_
  have s1 := And.left hok
  have hok := And.right hok
  refine x_callVi (n := 0) C hq gFr_same (c_s_copies l G q m h s1) (cwV 0 C.2.2.2.2.2.1 gX1_writePages_X1_copies rfl rfl rfl (by decide +kernel) ⟨Nat.le_of_ble_eq_true rfl, Nat.le_of_ble_eq_true rfl⟩) rfl rfl rfl rfl (Nat.le_of_ble_eq_true rfl) dX1_writePages_1 (Nat.zero_le _) (Nat.zero_le _) ?_
  obtain ⟨z2, hz2⟩ : ∃ y9 : Int32, y9 = (f_s_copies m) := ⟨_, rfl⟩
  have hf := hf.trans (g_let_eq hz2)
  have hok := g_let_p hz2 hok
  refine x_topi hz2 ?_
  refine x_istore (lv' := [(0, .ref (q 0)), (1, .int a1), (2, .int a2), (3, .int a3), (4, .int z2)]) C dX1_writePages_4 (by decide) [1, 2, 3, 4, 0] rfl ?_
  refine x_iload_n C dX1_writePages_6 rfl 1 rfl ?_
  refine x_istore (lv' := [(0, .ref (q 0)), (1, .int a1), (2, .int a2), (3, .int a3), (4, .int z2), (5, .int a1)]) C dX1_writePages_7 (by decide) [1, 2, 3, 4, 5, 0] rfl ?_
  have s3 := And.left hok
  have hok := And.right hok
  refine lp_s_writePages_9 C hq h a1 a2 a3 z2 400 ((a1, m)) s3 (fun z4 hz4 => ?_)
  have hf := hf.trans (g_let_eq hz4.symm)
  have hok := g_let_p hz4.symm hok
  refine x_aload_n C dX1_writePages_35 rfl 0 rfl ?_
  have s5 := And.left hok
  have hok := And.right hok
  refine x_callVi (n := 0) C hq gFr_same (c_s_copies l G q z4.2 h s5) (cwV 0 C.2.2.2.2.2.1 gX1_writePages_X1_copies rfl rfl rfl (by decide +kernel) ⟨Nat.le_of_ble_eq_true rfl, Nat.le_of_ble_eq_true rfl⟩) rfl rfl rfl rfl (Nat.le_of_ble_eq_true rfl) dX1_writePages_36 (Nat.zero_le _) (Nat.zero_le _) ?_
  refine x_iload C dX1_writePages_39 4 rfl ?_
  refine x_isub C dX1_writePages_41 ?_
  exact g_iret C hr rfl dX1_writePages_42 (congrArg (fun z => z.1) hf).symm (congrArg (fun z => z.2) hf).symm rfl
set_option maxRecDepth 20000 in
theorem in_X1_forget_1 : ∀ w ∈ u_ws RX1 TX1 17, w ∈ wsX1_forget := by decide +kernel
set_option maxRecDepth 20000 in
theorem k_X1_forget_24 : Cond.fieldLink RX1 24 "HintedPages$Store" "copiesSinceWrite" "[I" ∈ wsX1_forget := by decide +kernel
set_option maxRecDepth 20000 in
theorem k_X1_forget_36 : Cond.fieldLink RX1 36 "HintedPages$Store" "validOfBlock" "[I" ∈ wsX1_forget := by decide +kernel
set_option maxRecDepth 20000 in
theorem k_X1_forget_9 : Cond.fieldLink RX1 9 "HintedPages$Store" "placeOfPage" "[I" ∈ wsX1_forget := by decide +kernel
abbrev rm_s_forget : Room := { frames := 0, cells := 0, slots := 0, locals := 0 }
noncomputable def f_s_forget (m : gM) (a1 : Int32) : gM := g_let ((m 1 a1.toNatClampNeg)) (fun z2 : Int32 => (if z2 = (-1 : Int32) then g_let (g_set m 1 (upd (m 1) a1.toNatClampNeg (-1 : Int32))) (fun z5 : gM => g_let (g_set z5 5 (upd (z5 5) a1.toNatClampNeg (0 : Int32))) (fun z7 : gM => z7)) else g_let (g_set m 9 (upd (m 9) (z2 / (8 : Int32)).toNatClampNeg ((m 9 (z2 / (8 : Int32)).toNatClampNeg) - (1 : Int32)))) (fun z10 : gM => g_let (g_set z10 1 (upd (z10 1) a1.toNatClampNeg (-1 : Int32))) (fun z12 : gM => g_let (g_set z12 5 (upd (z12 5) a1.toNatClampNeg (0 : Int32))) (fun z14 : gM => z14)))))
noncomputable def o_s_forget (m : gM) (a1 : Int32) : Prop := (vp_in a1 40) ∧ (g_let ((m 1 a1.toNatClampNeg)) (fun z2 : Int32 => (if z2 = (-1 : Int32) then (vp_in a1 40) ∧ (g_let (g_set m 1 (upd (m 1) a1.toNatClampNeg (-1 : Int32))) (fun z5 : gM => (vp_in a1 40) ∧ (g_let (g_set z5 5 (upd (z5 5) a1.toNatClampNeg (0 : Int32))) (fun z7 : gM => True)))) else (vp_in (z2 / (8 : Int32)) 12) ∧ ((vp_in (z2 / (8 : Int32)) 12) ∧ (g_let (g_set m 9 (upd (m 9) (z2 / (8 : Int32)).toNatClampNeg ((m 9 (z2 / (8 : Int32)).toNatClampNeg) - (1 : Int32)))) (fun z10 : gM => (vp_in a1 40) ∧ (g_let (g_set z10 1 (upd (z10 1) a1.toNatClampNeg (-1 : Int32))) (fun z12 : gM => (vp_in a1 40) ∧ (g_let (g_set z12 5 (upd (z12 5) a1.toNatClampNeg (0 : Int32))) (fun z14 : gM => True))))))))))
set_option maxRecDepth 100000 in
set_option maxHeartbeats 4000000 in
theorem c_s_forget (l : Launch) (G : gG) (q : Nat → Nat) (m : gM) (h : gN) (a1 : Int32) (hok : o_s_forget m a1) : gMv l yX1_forget wsX1_forget rm_s_forget G shS q m h [.ref (q 0), .int a1] (f_s_forget m a1) h := by
  intro sz
  refine g_met (cc := cX1_forget) (maxL := 3) (ret := none) (own := RX1) (Qc := fun sz => gQv G shS q (f_s_forget m a1) h sz) (by decide) rfl rfl (Nat.le_of_ble_eq_true rfl) (fun p e s m9 below meth c C hq hr => ?_)
  refine x_lv (lv' := [(0, .ref (q 0)), (1, .int a1)]) [0, 1] rfl ?_
  have hf := f_s_forget.eq_1 m a1
  have hok := Eq.mp (o_s_forget.eq_1 m a1) hok
  refine x_aload_n C dX1_forget_0 rfl 0 rfl ?_
  refine x_get (v := .ref (q 1)) C in_X1_forget_1 0 rfl rfl 0 (by decide) k_X1_forget_9 rfl rfl dX1_forget_1 ?_
  refine x_iload_n C dX1_forget_4 rfl 1 rfl ?_
  have s1 := And.left hok
  have hok := And.right hok
  refine x_iald (n := 40) (v := (m 1 a1.toNatClampNeg)) C 1 rfl s1 rfl dX1_forget_5 ?_
  obtain ⟨z2, hz2⟩ : ∃ y9 : Int32, y9 = (m 1 a1.toNatClampNeg) := ⟨_, rfl⟩
  have hf := hf.trans (g_let_eq hz2)
  have hok := g_let_p hz2 hok
  refine x_topi hz2 ?_
  refine x_istore_n (lv' := [(0, .ref (q 0)), (1, .int a1), (2, .int z2)]) C dX1_forget_6 rfl (by decide) [1, 2, 0] rfl ?_
  refine x_iload_n C dX1_forget_7 rfl 2 rfl ?_
  refine x_iconst (v := (-1 : Int32)) C dX1_forget_8 (by decide) ?_
  refine x_icmp_eq (tgt := 25) C dX1_forget_9 (by decide) (fun c3 => ?_) (fun c3 => ?_)
  · have hf := hf.trans (if_pos c3)
    have hok := g_ip c3 hok
    refine x_aload_n C dX1_forget_25 rfl 0 rfl ?_
    refine x_get (v := .ref (q 1)) C in_X1_forget_1 0 rfl rfl 0 (by decide) k_X1_forget_9 rfl rfl dX1_forget_26 ?_
    refine x_iload_n C dX1_forget_29 rfl 1 rfl ?_
    refine x_iconst (v := (-1 : Int32)) C dX1_forget_30 (by decide) ?_
    have s4 := And.left hok
    have hok := And.right hok
    obtain ⟨z5, hz5⟩ : ∃ y9 : gM, y9 = g_set m 1 (upd (m 1) a1.toNatClampNeg (-1 : Int32)) := ⟨_, rfl⟩
    have hf := hf.trans (g_let_eq hz5)
    have hok := g_let_p hz5 hok
    refine x_iast (μ' := z5) (n := 40) C hq 1 rfl s4 hz5 dX1_forget_31 ?_
    refine x_aload_n C dX1_forget_32 rfl 0 rfl ?_
    refine x_get (v := .ref (q 5)) C in_X1_forget_1 0 rfl rfl 4 (by decide) k_X1_forget_24 rfl rfl dX1_forget_33 ?_
    refine x_iload_n C dX1_forget_36 rfl 1 rfl ?_
    refine x_iconst (v := (0 : Int32)) C dX1_forget_37 (by decide) ?_
    have s6 := And.left hok
    have hok := And.right hok
    obtain ⟨z7, hz7⟩ : ∃ y9 : gM, y9 = g_set z5 5 (upd (z5 5) a1.toNatClampNeg (0 : Int32)) := ⟨_, rfl⟩
    have hf := hf.trans (g_let_eq hz7)
    have hok := g_let_p hz7 hok
    refine x_iast (μ' := z7) (n := 40) C hq 5 rfl s6 hz7 dX1_forget_38 ?_
    exact g_vret C hr dX1_forget_39 hf.symm rfl
  · have hf := hf.trans (if_neg c3)
    have hok := g_in c3 hok
    refine x_aload_n C dX1_forget_12 rfl 0 rfl ?_
    refine x_get (v := .ref (q 9)) C in_X1_forget_1 0 rfl rfl 8 (by decide) k_X1_forget_36 rfl rfl dX1_forget_13 ?_
    refine x_iload_n C dX1_forget_16 rfl 2 rfl ?_
    refine x_bipush (v := (8 : Int32)) C dX1_forget_17 (by decide) ?_
    refine x_idiv C dX1_forget_19 (by decide) ?_
    refine x_dup2 C dX1_forget_20 rfl rfl ?_
    have s8 := And.left hok
    have hok := And.right hok
    refine x_iald (n := 12) (v := (m 9 (z2 / (8 : Int32)).toNatClampNeg)) C 9 rfl s8 rfl dX1_forget_21 ?_
    refine x_iconst (v := (1 : Int32)) C dX1_forget_22 (by decide) ?_
    refine x_isub C dX1_forget_23 ?_
    have s9 := And.left hok
    have hok := And.right hok
    obtain ⟨z10, hz10⟩ : ∃ y9 : gM, y9 = g_set m 9 (upd (m 9) (z2 / (8 : Int32)).toNatClampNeg ((m 9 (z2 / (8 : Int32)).toNatClampNeg) - (1 : Int32))) := ⟨_, rfl⟩
    have hf := hf.trans (g_let_eq hz10)
    have hok := g_let_p hz10 hok
    refine x_iast (μ' := z10) (n := 12) C hq 9 rfl s9 hz10 dX1_forget_24 ?_
    refine x_aload_n C dX1_forget_25 rfl 0 rfl ?_
    refine x_get (v := .ref (q 1)) C in_X1_forget_1 0 rfl rfl 0 (by decide) k_X1_forget_9 rfl rfl dX1_forget_26 ?_
    refine x_iload_n C dX1_forget_29 rfl 1 rfl ?_
    refine x_iconst (v := (-1 : Int32)) C dX1_forget_30 (by decide) ?_
    have s11 := And.left hok
    have hok := And.right hok
    obtain ⟨z12, hz12⟩ : ∃ y9 : gM, y9 = g_set z10 1 (upd (z10 1) a1.toNatClampNeg (-1 : Int32)) := ⟨_, rfl⟩
    have hf := hf.trans (g_let_eq hz12)
    have hok := g_let_p hz12 hok
    refine x_iast (μ' := z12) (n := 40) C hq 1 rfl s11 hz12 dX1_forget_31 ?_
    refine x_aload_n C dX1_forget_32 rfl 0 rfl ?_
    refine x_get (v := .ref (q 5)) C in_X1_forget_1 0 rfl rfl 4 (by decide) k_X1_forget_24 rfl rfl dX1_forget_33 ?_
    refine x_iload_n C dX1_forget_36 rfl 1 rfl ?_
    refine x_iconst (v := (0 : Int32)) C dX1_forget_37 (by decide) ?_
    have s13 := And.left hok
    have hok := And.right hok
    obtain ⟨z14, hz14⟩ : ∃ y9 : gM, y9 = g_set z12 5 (upd (z12 5) a1.toNatClampNeg (0 : Int32)) := ⟨_, rfl⟩
    have hf := hf.trans (g_let_eq hz14)
    have hok := g_let_p hz14 hok
    refine x_iast (μ' := z14) (n := 40) C hq 5 rfl s13 hz14 dX1_forget_38 ?_
    exact g_vret C hr dX1_forget_39 hf.symm rfl
