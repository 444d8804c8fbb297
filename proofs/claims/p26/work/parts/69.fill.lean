abbrev rm_j_fill40 : Room := { frames := 0, cells := 0, slots := 0, locals := 0 }
noncomputable def L_j_fill40_5 (x1 : Int32) (x3 : Int32) (z : Int32 × gM) : Bool × (Int32 × gM) := (if x3 ≤ z.1 then (false, (z.1, z.2)) else g_let (g_set z.2 0 (upd (z.2 0) z.1.toNatClampNeg x1)) (fun z3 : gM => g_let ((z.1 + (1 : Int32))) (fun z4 : Int32 => (true, (z4, z3)))))
noncomputable def K_j_fill40_5 (x1 : Int32) (x3 : Int32) (z : Int32 × gM) : Prop := (if x3 ≤ z.1 then True else (vp_in z.1 40) ∧ (g_let (g_set z.2 0 (upd (z.2 0) z.1.toNatClampNeg x1)) (fun z3 : gM => g_let ((z.1 + (1 : Int32))) (fun z4 : Int32 => True))))
set_option maxRecDepth 100000 in
set_option maxHeartbeats 4000000 in
theorem lp_j_fill40_5 {p : Program} {l : Launch} {e : Env} {s : State} {m9 : MethodId} {args : Array Value} {below : List Frame} {meth : Method} {c : Code} {G : gG} {A : Nat → Prop} {Q : State → Prop} {q : Nat → Nat} (C : xC p s m9 args meth c G A 4 cJ7_fill_53178 RJ7 wsJ7_fill_53178) (hq : gD A q sha40.length) (h : gN) (x1 : Int32) (x3 : Int32) : ∀ (n : Nat) (z : Int32 × gM), rOk (L_j_fill40_5 x1 x3) (K_j_fill40_5 x1 x3) n z → (∀ z' : Int32 × gM, run (L_j_fill40_5 x1 x3) n z = z' → xJ p l e rm_j_fill40 s m9 args below meth c G A 4 Q 0 0 sha40 q z'.2 h [(0, .ref (q 0)), (1, .int x1), (2, .int z'.1), (3, .int x3)] [] 20) → xJ p l e rm_j_fill40 s m9 args below meth c G A 4 Q 0 0 sha40 q z.2 h [(0, .ref (q 0)), (1, .int x1), (2, .int z.1), (3, .int x3)] [] 5 := by
  intro n
  induction n with
  | zero =>
    intro z hok _
    exact rOk_0 hok
  | succ n ih =>
    intro z hok K0
    have hnx := rOk_2 hok
    have hok := rOk_1 hok
    have hf := L_j_fill40_5.eq_1 x1 x3 z
    have hok := Eq.mp (K_j_fill40_5.eq_1 x1 x3 z) hok
    refine x_iload_n C dJ7_fill_53178_5 rfl 2 rfl ?_
    refine x_iload_n C dJ7_fill_53178_6 rfl 3 rfl ?_
    refine x_icmp_ge (tgt := 20) C dJ7_fill_53178_7 (by decide) (fun c1 => ?_) (fun c1 => ?_)
    · have hf := hf.trans (if_pos c1)
      have hok := g_ip c1 hok
      exact K0 ((z.1, z.2)) (run_f hf)
    · have hf := hf.trans (if_neg c1)
      have hok := g_in c1 hok
      refine x_aload_n C dJ7_fill_53178_10 rfl 0 rfl ?_
      refine x_iload_n C dJ7_fill_53178_11 rfl 2 rfl ?_
      refine x_iload_n C dJ7_fill_53178_12 rfl 1 rfl ?_
      have s2 := And.left hok
      have hok := And.right hok
      obtain ⟨z3, hz3⟩ : ∃ y9 : gM, y9 = g_set z.2 0 (upd (z.2 0) z.1.toNatClampNeg x1) := ⟨_, rfl⟩
      have hf := hf.trans (g_let_eq hz3)
      have hok := g_let_p hz3 hok
      refine x_iast (μ' := z3) (n := 40) C hq 0 rfl s2 hz3 dJ7_fill_53178_13 ?_
      obtain ⟨z4, hz4⟩ : ∃ y9 : Int32, y9 = (z.1 + (1 : Int32)) := ⟨_, rfl⟩
      have hf := hf.trans (g_let_eq hz4)
      have hok := g_let_p hz4 hok
      refine x_iinc (v := z4) (lv' := [(0, .ref (q 0)), (1, .int x1), (2, .int z4), (3, .int x3)]) C dJ7_fill_53178_14 2 rfl hz4.symm (by decide) [1, 2, 0, 3] rfl ?_
      refine x_goto (tgt := 5) C dJ7_fill_53178_17 (by decide) ?_
      exact ih ((z4, z3)) (rOk_t hnx hf) (fun z' hz => K0 z' ((run_t hf).trans hz))
noncomputable def f_j_fill40 (m : gM) (a1 : Int32) : gM := g_let (run (L_j_fill40_5 a1 (40 : Int32)) 400 (((0 : Int32), m))) (fun z2 : Int32 × gM => z2.2)
noncomputable def o_j_fill40 (m : gM) (a1 : Int32) : Prop := (rOk (L_j_fill40_5 a1 (40 : Int32)) (K_j_fill40_5 a1 (40 : Int32)) 400 (((0 : Int32), m))) ∧ (g_let (run (L_j_fill40_5 a1 (40 : Int32)) 400 (((0 : Int32), m))) (fun z2 : Int32 × gM => True))
set_option maxRecDepth 100000 in
set_option maxHeartbeats 4000000 in
theorem c_j_fill40 (l : Launch) (G : gG) (q : Nat → Nat) (m : gM) (h : gN) (a1 : Int32) (hok : o_j_fill40 m a1) : gMv l yJ7_fill_53178 wsJ7_fill_53178 rm_j_fill40 G sha40 q m h [.ref (q 0), .int a1] (f_j_fill40 m a1) h := by
  intro sz
  refine g_met (cc := cJ7_fill_53178) (maxL := 4) (ret := none) (own := RJ7) (Qc := fun sz => gQv G sha40 q (f_j_fill40 m a1) h sz) (by decide) rfl rfl (Nat.le_of_ble_eq_true rfl) (fun p e s m9 below meth c C hq hr => ?_)
  refine x_lv (lv' := [(0, .ref (q 0)), (1, .int a1)]) [0, 1] rfl ?_
  have hf := f_j_fill40.eq_1 m a1
  have hok := Eq.mp (o_j_fill40.eq_1 m a1) hok
  refine x_iconst (v := (0 : Int32)) C dJ7_fill_53178_0 (by decide) ?_
  refine x_istore_n (lv' := [(0, .ref (q 0)), (1, .int a1), (2, .int (0 : Int32))]) C dJ7_fill_53178_1 rfl (by decide) [1, 2, 0] rfl ?_
  refine x_aload_n C dJ7_fill_53178_2 rfl 0 rfl ?_
  refine x_alen (n := 40) (v := (40 : Int32)) C 0 rfl rfl dJ7_fill_53178_3 ?_
  refine x_istore_n (lv' := [(0, .ref (q 0)), (1, .int a1), (2, .int (0 : Int32)), (3, .int (40 : Int32))]) C dJ7_fill_53178_4 rfl (by decide) [1, 2, 3, 0] rfl ?_
  have s1 := And.left hok
  have hok := And.right hok
  refine lp_j_fill40_5 C hq h a1 (40 : Int32) 400 (((0 : Int32), m)) s1 (fun z2 hz2 => ?_)
  have hf := hf.trans (g_let_eq hz2.symm)
  have hok := g_let_p hz2.symm hok
  exact g_vret C hr dJ7_fill_53178_20 hf.symm rfl
def sha96 : List gC := [.inl 96]
abbrev rm_j_fill96 : Room := { frames := 0, cells := 0, slots := 0, locals := 0 }
noncomputable def L_j_fill96_5 (x1 : Int32) (x3 : Int32) (z : Int32 × gM) : Bool × (Int32 × gM) := (if x3 ≤ z.1 then (false, (z.1, z.2)) else g_let (g_set z.2 0 (upd (z.2 0) z.1.toNatClampNeg x1)) (fun z3 : gM => g_let ((z.1 + (1 : Int32))) (fun z4 : Int32 => (true, (z4, z3)))))
noncomputable def K_j_fill96_5 (x1 : Int32) (x3 : Int32) (z : Int32 × gM) : Prop := (if x3 ≤ z.1 then True else (vp_in z.1 96) ∧ (g_let (g_set z.2 0 (upd (z.2 0) z.1.toNatClampNeg x1)) (fun z3 : gM => g_let ((z.1 + (1 : Int32))) (fun z4 : Int32 => True))))
set_option maxRecDepth 100000 in
set_option maxHeartbeats 4000000 in
theorem lp_j_fill96_5 {p : Program} {l : Launch} {e : Env} {s : State} {m9 : MethodId} {args : Array Value} {below : List Frame} {meth : Method} {c : Code} {G : gG} {A : Nat → Prop} {Q : State → Prop} {q : Nat → Nat} (C : xC p s m9 args meth c G A 4 cJ7_fill_53178 RJ7 wsJ7_fill_53178) (hq : gD A q sha96.length) (h : gN) (x1 : Int32) (x3 : Int32) : ∀ (n : Nat) (z : Int32 × gM), rOk (L_j_fill96_5 x1 x3) (K_j_fill96_5 x1 x3) n z → (∀ z' : Int32 × gM, run (L_j_fill96_5 x1 x3) n z = z' → xJ p l e rm_j_fill96 s m9 args below meth c G A 4 Q 0 0 sha96 q z'.2 h [(0, .ref (q 0)), (1, .int x1), (2, .int z'.1), (3, .int x3)] [] 20) → xJ p l e rm_j_fill96 s m9 args below meth c G A 4 Q 0 0 sha96 q z.2 h [(0, .ref (q 0)), (1, .int x1), (2, .int z.1), (3, .int x3)] [] 5 := by
  intro n
  induction n with
  | zero =>
    intro z hok _
    exact rOk_0 hok
  | succ n ih =>
    intro z hok K0
    have hnx := rOk_2 hok
    have hok := rOk_1 hok
    have hf := L_j_fill96_5.eq_1 x1 x3 z
    have hok := Eq.mp (K_j_fill96_5.eq_1 x1 x3 z) hok
    refine x_iload_n C dJ7_fill_53178_5 rfl 2 rfl ?_
    refine x_iload_n C dJ7_fill_53178_6 rfl 3 rfl ?_
    refine x_icmp_ge (tgt := 20) C dJ7_fill_53178_7 (by decide) (fun c1 => ?_) (fun c1 => ?_)
    · have hf := hf.trans (if_pos c1)
      have hok := g_ip c1 hok
      exact K0 ((z.1, z.2)) (run_f hf)
    · have hf := hf.trans (if_neg c1)
      have hok := g_in c1 hok
      refine x_aload_n C dJ7_fill_53178_10 rfl 0 rfl ?_
      refine x_iload_n C dJ7_fill_53178_11 rfl 2 rfl ?_
      refine x_iload_n C dJ7_fill_53178_12 rfl 1 rfl ?_
      have s2 := And.left hok
      have hok := And.right hok
      obtain ⟨z3, hz3⟩ : ∃ y9 : gM, y9 = g_set z.2 0 (upd (z.2 0) z.1.toNatClampNeg x1) := ⟨_, rfl⟩
      have hf := hf.trans (g_let_eq hz3)
      have hok := g_let_p hz3 hok
      refine x_iast (μ' := z3) (n := 96) C hq 0 rfl s2 hz3 dJ7_fill_53178_13 ?_
      obtain ⟨z4, hz4⟩ : ∃ y9 : Int32, y9 = (z.1 + (1 : Int32)) := ⟨_, rfl⟩
      have hf := hf.trans (g_let_eq hz4)
      have hok := g_let_p hz4 hok
      refine x_iinc (v := z4) (lv' := [(0, .ref (q 0)), (1, .int x1), (2, .int z4), (3, .int x3)]) C dJ7_fill_53178_14 2 rfl hz4.symm (by decide) [1, 2, 0, 3] rfl ?_
      refine x_goto (tgt := 5) C dJ7_fill_53178_17 (by decide) ?_
      exact ih ((z4, z3)) (rOk_t hnx hf) (fun z' hz => K0 z' ((run_t hf).trans hz))
noncomputable def f_j_fill96 (m : gM) (a1 : Int32) : gM := g_let (run (L_j_fill96_5 a1 (96 : Int32)) 400 (((0 : Int32), m))) (fun z2 : Int32 × gM => z2.2)
noncomputable def o_j_fill96 (m : gM) (a1 : Int32) : Prop := (rOk (L_j_fill96_5 a1 (96 : Int32)) (K_j_fill96_5 a1 (96 : Int32)) 400 (((0 : Int32), m))) ∧ (g_let (run (L_j_fill96_5 a1 (96 : Int32)) 400 (((0 : Int32), m))) (fun z2 : Int32 × gM => True))
set_option maxRecDepth 100000 in
set_option maxHeartbeats 4000000 in
theorem c_j_fill96 (l : Launch) (G : gG) (q : Nat → Nat) (m : gM) (h : gN) (a1 : Int32) (hok : o_j_fill96 m a1) : gMv l yJ7_fill_53178 wsJ7_fill_53178 rm_j_fill96 G sha96 q m h [.ref (q 0), .int a1] (f_j_fill96 m a1) h := by
  intro sz
  refine g_met (cc := cJ7_fill_53178) (maxL := 4) (ret := none) (own := RJ7) (Qc := fun sz => gQv G sha96 q (f_j_fill96 m a1) h sz) (by decide) rfl rfl (Nat.le_of_ble_eq_true rfl) (fun p e s m9 below meth c C hq hr => ?_)
  refine x_lv (lv' := [(0, .ref (q 0)), (1, .int a1)]) [0, 1] rfl ?_
  have hf := f_j_fill96.eq_1 m a1
  have hok := Eq.mp (o_j_fill96.eq_1 m a1) hok
  refine x_iconst (v := (0 : Int32)) C dJ7_fill_53178_0 (by decide) ?_
  refine x_istore_n (lv' := [(0, .ref (q 0)), (1, .int a1), (2, .int (0 : Int32))]) C dJ7_fill_53178_1 rfl (by decide) [1, 2, 0] rfl ?_
  refine x_aload_n C dJ7_fill_53178_2 rfl 0 rfl ?_
  refine x_alen (n := 96) (v := (96 : Int32)) C 0 rfl rfl dJ7_fill_53178_3 ?_
  refine x_istore_n (lv' := [(0, .ref (q 0)), (1, .int a1), (2, .int (0 : Int32)), (3, .int (96 : Int32))]) C dJ7_fill_53178_4 rfl (by decide) [1, 2, 3, 0] rfl ?_
  have s1 := And.left hok
  have hok := And.right hok
  refine lp_j_fill96_5 C hq h a1 (96 : Int32) 400 (((0 : Int32), m)) s1 (fun z2 hz2 => ?_)
  have hf := hf.trans (g_let_eq hz2.symm)
  have hok := g_let_p hz2.symm hok
  exact g_vret C hr dJ7_fill_53178_20 hf.symm rfl
abbrev rm_j_fill12 : Room := { frames := 0, cells := 0, slots := 0, locals := 0 }
noncomputable def L_j_fill12_5 (x1 : Int32) (x3 : Int32) (z : Int32 × gM) : Bool × (Int32 × gM) := (if x3 ≤ z.1 then (false, (z.1, z.2)) else g_let (g_set z.2 0 (upd (z.2 0) z.1.toNatClampNeg x1)) (fun z3 : gM => g_let ((z.1 + (1 : Int32))) (fun z4 : Int32 => (true, (z4, z3)))))
noncomputable def K_j_fill12_5 (x1 : Int32) (x3 : Int32) (z : Int32 × gM) : Prop := (if x3 ≤ z.1 then True else (vp_in z.1 12) ∧ (g_let (g_set z.2 0 (upd (z.2 0) z.1.toNatClampNeg x1)) (fun z3 : gM => g_let ((z.1 + (1 : Int32))) (fun z4 : Int32 => True))))
set_option maxRecDepth 100000 in
set_option maxHeartbeats 4000000 in
theorem lp_j_fill12_5 {p : Program} {l : Launch} {e : Env} {s : State} {m9 : MethodId} {args : Array Value} {below : List Frame} {meth : Method} {c : Code} {G : gG} {A : Nat → Prop} {Q : State → Prop} {q : Nat → Nat} (C : xC p s m9 args meth c G A 4 cJ7_fill_53178 RJ7 wsJ7_fill_53178) (hq : gD A q sha12.length) (h : gN) (x1 : Int32) (x3 : Int32) : ∀ (n : Nat) (z : Int32 × gM), rOk (L_j_fill12_5 x1 x3) (K_j_fill12_5 x1 x3) n z → (∀ z' : Int32 × gM, run (L_j_fill12_5 x1 x3) n z = z' → xJ p l e rm_j_fill12 s m9 args below meth c G A 4 Q 0 0 sha12 q z'.2 h [(0, .ref (q 0)), (1, .int x1), (2, .int z'.1), (3, .int x3)] [] 20) → xJ p l e rm_j_fill12 s m9 args below meth c G A 4 Q 0 0 sha12 q z.2 h [(0, .ref (q 0)), (1, .int x1), (2, .int z.1), (3, .int x3)] [] 5 := by
  intro n
  induction n with
  | zero =>
    intro z hok _
    exact rOk_0 hok
  | succ n ih =>
    intro z hok K0
    have hnx := rOk_2 hok
    have hok := rOk_1 hok
    have hf := L_j_fill12_5.eq_1 x1 x3 z
    have hok := Eq.mp (K_j_fill12_5.eq_1 x1 x3 z) hok
    refine x_iload_n C dJ7_fill_53178_5 rfl 2 rfl ?_
    refine x_iload_n C dJ7_fill_53178_6 rfl 3 rfl ?_
    refine x_icmp_ge (tgt := 20) C dJ7_fill_53178_7 (by decide) (fun c1 => ?_) (fun c1 => ?_)
    · have hf := hf.trans (if_pos c1)
      have hok := g_ip c1 hok
      exact K0 ((z.1, z.2)) (run_f hf)
    · have hf := hf.trans (if_neg c1)
      have hok := g_in c1 hok
      refine x_aload_n C dJ7_fill_53178_10 rfl 0 rfl ?_
      refine x_iload_n C dJ7_fill_53178_11 rfl 2 rfl ?_
      refine x_iload_n C dJ7_fill_53178_12 rfl 1 rfl ?_
      have s2 := And.left hok
      have hok := And.right hok
      obtain ⟨z3, hz3⟩ : ∃ y9 : gM, y9 = g_set z.2 0 (upd (z.2 0) z.1.toNatClampNeg x1) := ⟨_, rfl⟩
      have hf := hf.trans (g_let_eq hz3)
      have hok := g_let_p hz3 hok
      refine x_iast (μ' := z3) (n := 12) C hq 0 rfl s2 hz3 dJ7_fill_53178_13 ?_
      obtain ⟨z4, hz4⟩ : ∃ y9 : Int32, y9 = (z.1 + (1 : Int32)) := ⟨_, rfl⟩
      have hf := hf.trans (g_let_eq hz4)
      have hok := g_let_p hz4 hok
      refine x_iinc (v := z4) (lv' := [(0, .ref (q 0)), (1, .int x1), (2, .int z4), (3, .int x3)]) C dJ7_fill_53178_14 2 rfl hz4.symm (by decide) [1, 2, 0, 3] rfl ?_
      refine x_goto (tgt := 5) C dJ7_fill_53178_17 (by decide) ?_
      exact ih ((z4, z3)) (rOk_t hnx hf) (fun z' hz => K0 z' ((run_t hf).trans hz))
noncomputable def f_j_fill12 (m : gM) (a1 : Int32) : gM := g_let (run (L_j_fill12_5 a1 (12 : Int32)) 400 (((0 : Int32), m))) (fun z2 : Int32 × gM => z2.2)
noncomputable def o_j_fill12 (m : gM) (a1 : Int32) : Prop := (rOk (L_j_fill12_5 a1 (12 : Int32)) (K_j_fill12_5 a1 (12 : Int32)) 400 (((0 : Int32), m))) ∧ (g_let (run (L_j_fill12_5 a1 (12 : Int32)) 400 (((0 : Int32), m))) (fun z2 : Int32 × gM => True))
set_option maxRecDepth 100000 in
set_option maxHeartbeats 4000000 in
theorem c_j_fill12 (l : Launch) (G : gG) (q : Nat → Nat) (m : gM) (h : gN) (a1 : Int32) (hok : o_j_fill12 m a1) : gMv l yJ7_fill_53178 wsJ7_fill_53178 rm_j_fill12 G sha12 q m h [.ref (q 0), .int a1] (f_j_fill12 m a1) h := by
  intro sz
  refine g_met (cc := cJ7_fill_53178) (maxL := 4) (ret := none) (own := RJ7) (Qc := fun sz => gQv G sha12 q (f_j_fill12 m a1) h sz) (by decide) rfl rfl (Nat.le_of_ble_eq_true rfl) (fun p e s m9 below meth c C hq hr => ?_)
  refine x_lv (lv' := [(0, .ref (q 0)), (1, .int a1)]) [0, 1] rfl ?_
  have hf := f_j_fill12.eq_1 m a1
  have hok := Eq.mp (o_j_fill12.eq_1 m a1) hok
  refine x_iconst (v := (0 : Int32)) C dJ7_fill_53178_0 (by decide) ?_
  refine x_istore_n (lv' := [(0, .ref (q 0)), (1, .int a1), (2, .int (0 : Int32))]) C dJ7_fill_53178_1 rfl (by decide) [1, 2, 0] rfl ?_
  refine x_aload_n C dJ7_fill_53178_2 rfl 0 rfl ?_
  refine x_alen (n := 12) (v := (12 : Int32)) C 0 rfl rfl dJ7_fill_53178_3 ?_
  refine x_istore_n (lv' := [(0, .ref (q 0)), (1, .int a1), (2, .int (0 : Int32)), (3, .int (12 : Int32))]) C dJ7_fill_53178_4 rfl (by decide) [1, 2, 3, 0] rfl ?_
  have s1 := And.left hok
  have hok := And.right hok
  refine lp_j_fill12_5 C hq h a1 (12 : Int32) 400 (((0 : Int32), m)) s1 (fun z2 hz2 => ?_)
  have hf := hf.trans (g_let_eq hz2.symm)
  have hok := g_let_p hz2.symm hok
  exact g_vret C hr dJ7_fill_53178_20 hf.symm rfl
def sha5 : List gC := [.inl 5]
abbrev rm_j_fill5 : Room := { frames := 0, cells := 0, slots := 0, locals := 0 }
noncomputable def L_j_fill5_5 (x1 : Int32) (x3 : Int32) (z : Int32 × gM) : Bool × (Int32 × gM) := (if x3 ≤ z.1 then (false, (z.1, z.2)) else g_let (g_set z.2 0 (upd (z.2 0) z.1.toNatClampNeg x1)) (fun z3 : gM => g_let ((z.1 + (1 : Int32))) (fun z4 : Int32 => (true, (z4, z3)))))
noncomputable def K_j_fill5_5 (x1 : Int32) (x3 : Int32) (z : Int32 × gM) : Prop := (if x3 ≤ z.1 then True else (vp_in z.1 5) ∧ (g_let (g_set z.2 0 (upd (z.2 0) z.1.toNatClampNeg x1)) (fun z3 : gM => g_let ((z.1 + (1 : Int32))) (fun z4 : Int32 => True))))
set_option maxRecDepth 100000 in
set_option maxHeartbeats 4000000 in
theorem lp_j_fill5_5 {p : Program} {l : Launch} {e : Env} {s : State} {m9 : MethodId} {args : Array Value} {below : List Frame} {meth : Method} {c : Code} {G : gG} {A : Nat → Prop} {Q : State → Prop} {q : Nat → Nat} (C : xC p s m9 args meth c G A 4 cJ7_fill_53178 RJ7 wsJ7_fill_53178) (hq : gD A q sha5.length) (h : gN) (x1 : Int32) (x3 : Int32) : ∀ (n : Nat) (z : Int32 × gM), rOk (L_j_fill5_5 x1 x3) (K_j_fill5_5 x1 x3) n z → (∀ z' : Int32 × gM, run (L_j_fill5_5 x1 x3) n z = z' → xJ p l e rm_j_fill5 s m9 args below meth c G A 4 Q 0 0 sha5 q z'.2 h [(0, .ref (q 0)), (1, .int x1), (2, .int z'.1), (3, .int x3)] [] 20) → xJ p l e rm_j_fill5 s m9 args below meth c G A 4 Q 0 0 sha5 q z.2 h [(0, .ref (q 0)), (1, .int x1), (2, .int z.1), (3, .int x3)] [] 5 := by
  intro n
  induction n with
  | zero =>
    intro z hok _
    exact rOk_0 hok
  | succ n ih =>
    intro z hok K0
    have hnx := rOk_2 hok
    have hok := rOk_1 hok
    have hf := L_j_fill5_5.eq_1 x1 x3 z
    have hok := Eq.mp (K_j_fill5_5.eq_1 x1 x3 z) hok
    refine x_iload_n C dJ7_fill_53178_5 rfl 2 rfl ?_
    refine x_iload_n C dJ7_fill_53178_6 rfl 3 rfl ?_
    refine x_icmp_ge (tgt := 20) C dJ7_fill_53178_7 (by decide) (fun c1 => ?_) (fun c1 => ?_)
    · have hf := hf.trans (if_pos c1)
      have hok := g_ip c1 hok
      exact K0 ((z.1, z.2)) (run_f hf)
    · have hf := hf.trans (if_neg c1)
      have hok := g_in c1 hok
      refine x_aload_n C dJ7_fill_53178_10 rfl 0 rfl ?_
      refine x_iload_n C dJ7_fill_53178_11 rfl 2 rfl ?_
      refine x_iload_n C dJ7_fill_53178_12 rfl 1 rfl ?_
      have s2 := And.left hok
      have hok := And.right hok
      obtain ⟨z3, hz3⟩ : ∃ y9 : gM, y9 = g_set z.2 0 (upd (z.2 0) z.1.toNatClampNeg x1) := ⟨_, rfl⟩
      have hf := hf.trans (g_let_eq hz3)
      have hok := g_let_p hz3 hok
      refine x_iast (μ' := z3) (n := 5) C hq 0 rfl s2 hz3 dJ7_fill_53178_13 ?_
      obtain ⟨z4, hz4⟩ : ∃ y9 : Int32, y9 = (z.1 + (1 : Int32)) := ⟨_, rfl⟩
      have hf := hf.trans (g_let_eq hz4)
      have hok := g_let_p hz4 hok
      refine x_iinc (v := z4) (lv' := [(0, .ref (q 0)), (1, .int x1), (2, .int z4), (3, .int x3)]) C dJ7_fill_53178_14 2 rfl hz4.symm (by decide) [1, 2, 0, 3] rfl ?_
      refine x_goto (tgt := 5) C dJ7_fill_53178_17 (by decide) ?_
      exact ih ((z4, z3)) (rOk_t hnx hf) (fun z' hz => K0 z' ((run_t hf).trans hz))
noncomputable def f_j_fill5 (m : gM) (a1 : Int32) : gM := g_let (run (L_j_fill5_5 a1 (5 : Int32)) 400 (((0 : Int32), m))) (fun z2 : Int32 × gM => z2.2)
noncomputable def o_j_fill5 (m : gM) (a1 : Int32) : Prop := (rOk (L_j_fill5_5 a1 (5 : Int32)) (K_j_fill5_5 a1 (5 : Int32)) 400 (((0 : Int32), m))) ∧ (g_let (run (L_j_fill5_5 a1 (5 : Int32)) 400 (((0 : Int32), m))) (fun z2 : Int32 × gM => True))
set_option maxRecDepth 100000 in
set_option maxHeartbeats 4000000 in
theorem c_j_fill5 (l : Launch) (G : gG) (q : Nat → Nat) (m : gM) (h : gN) (a1 : Int32) (hok : o_j_fill5 m a1) : gMv l yJ7_fill_53178 wsJ7_fill_53178 rm_j_fill5 G sha5 q m h [.ref (q 0), .int a1] (f_j_fill5 m a1) h := by
  intro sz
  refine g_met (cc := cJ7_fill_53178) (maxL := 4) (ret := none) (own := RJ7) (Qc := fun sz => gQv G sha5 q (f_j_fill5 m a1) h sz) (by decide) rfl rfl (Nat.le_of_ble_eq_true rfl) (fun p e s m9 below meth c C hq hr => ?_)
  refine x_lv (lv' := [(0, .ref (q 0)), (1, .int a1)]) [0, 1] rfl ?_
  have hf := f_j_fill5.eq_1 m a1
  have hok := Eq.mp (o_j_fill5.eq_1 m a1) hok
  refine x_iconst (v := (0 : Int32)) C dJ7_fill_53178_0 (by decide) ?_
  refine x_istore_n (lv' := [(0, .ref (q 0)), (1, .int a1), (2, .int (0 : Int32))]) C dJ7_fill_53178_1 rfl (by decide) [1, 2, 0] rfl ?_
  refine x_aload_n C dJ7_fill_53178_2 rfl 0 rfl ?_
  refine x_alen (n := 5) (v := (5 : Int32)) C 0 rfl rfl dJ7_fill_53178_3 ?_
  refine x_istore_n (lv' := [(0, .ref (q 0)), (1, .int a1), (2, .int (0 : Int32)), (3, .int (5 : Int32))]) C dJ7_fill_53178_4 rfl (by decide) [1, 2, 3, 0] rfl ?_
  have s1 := And.left hok
  have hok := And.right hok
  refine lp_j_fill5_5 C hq h a1 (5 : Int32) 400 (((0 : Int32), m)) s1 (fun z2 hz2 => ?_)
  have hf := hf.trans (g_let_eq hz2.symm)
  have hok := g_let_p hz2.symm hok
  exact g_vret C hr dJ7_fill_53178_20 hf.symm rfl
