/-! the reference's functions once more, so that they reduce -/
def e_let {α β : Sort _} (x : α) (f : α → β) : β := f x
theorem g_let_e {α β : Sort _} (x : α) (f : α → β) : g_let x f = e_let x f := g_let_def x f
def e_run {S : Type} (f : S → Bool × S) (n : Nat) (z : S) : S := runC f n z
theorem run_e {S : Type} (f : S → Bool × S) (n : Nat) (z : S) : run f n z = e_run f n z := run_def f n z
noncomputable def ef_r_in (a1 : Int32) (a2 : Int32) (a3 : Int32) : Int32 := (if a1 < a2 then (0 : Int32) else (if a3 < a1 then (0 : Int32) else (1 : Int32)))
theorem ee_f_r_in (a1 : Int32) (a2 : Int32) (a3 : Int32) : f_r_in a1 a2 a3 = ef_r_in a1 a2 a3 := by
  unfold f_r_in ef_r_in
  rfl
noncomputable def ef_r_of (m : gM) (a1 : Int32) (a2 : Int32) : Int32 := (m 0 (((144 : Int32) + ((5 : Int32) * a1)) + a2).toNatClampNeg)
theorem ee_f_r_of (m : gM) (a1 : Int32) (a2 : Int32) : f_r_of m a1 a2 = ef_r_of m a1 a2 := by
  unfold f_r_of ef_r_of
  rfl
noncomputable def ef_r_isWritten (m : gM) (a1 : Int32) : Int32 := (if (ef_r_of m a1 (0 : Int32)) = (-1 : Int32) then (0 : Int32) else (1 : Int32))
theorem ee_f_r_isWritten (m : gM) (a1 : Int32) : f_r_isWritten m a1 = ef_r_isWritten m a1 := by
  unfold f_r_isWritten ef_r_isWritten
  simp only [ee_f_r_of]
noncomputable def ef_r_isValid (m : gM) (a1 : Int32) : Int32 := (if (m 0 a1.toNatClampNeg) = (-1 : Int32) then (0 : Int32) else (if (ef_r_of m (m 0 a1.toNatClampNeg) (0 : Int32)) = a1 then (1 : Int32) else (0 : Int32)))
theorem ee_f_r_isValid (m : gM) (a1 : Int32) : f_r_isValid m a1 = ef_r_isValid m a1 := by
  unfold f_r_isValid ef_r_isValid
  simp only [ee_f_r_of]
noncomputable def eL_r_slots_8 (m : gM) (x1 : Int32) (x2 : Int32) (z : Int32 × Int32) : Bool × (Int32 × Int32) := (if (((8 : Int32) * x1) + (8 : Int32)) ≤ z.2 then (false, (z.1, z.2)) else (if (m 0 z.2.toNatClampNeg) = (-1 : Int32) then (if (2 : Int32) = x2 then e_let ((z.1 + (1 : Int32))) (fun z19 : Int32 => e_let ((z.2 + (1 : Int32))) (fun z20 : Int32 => (true, (z19, z20)))) else e_let ((z.1 + (0 : Int32))) (fun z17 : Int32 => e_let ((z.2 + (1 : Int32))) (fun z18 : Int32 => (true, (z17, z18))))) else (if (ef_r_isValid m z.2) = 0 then (if (1 : Int32) = x2 then e_let ((z.1 + (1 : Int32))) (fun z9 : Int32 => e_let ((z.2 + (1 : Int32))) (fun z10 : Int32 => (true, (z9, z10)))) else e_let ((z.1 + (0 : Int32))) (fun z7 : Int32 => e_let ((z.2 + (1 : Int32))) (fun z8 : Int32 => (true, (z7, z8))))) else (if (0 : Int32) = x2 then e_let ((z.1 + (1 : Int32))) (fun z14 : Int32 => e_let ((z.2 + (1 : Int32))) (fun z15 : Int32 => (true, (z14, z15)))) else e_let ((z.1 + (0 : Int32))) (fun z12 : Int32 => e_let ((z.2 + (1 : Int32))) (fun z13 : Int32 => (true, (z12, z13))))))))
theorem ee_L_r_slots_8 (m : gM) (x1 : Int32) (x2 : Int32) : L_r_slots_8 m x1 x2 = eL_r_slots_8 m x1 x2 := by
  funext z
  unfold L_r_slots_8 eL_r_slots_8
  simp only [g_let_e, ee_f_r_isValid]
noncomputable def ef_r_slots (m : gM) (a1 : Int32) (a2 : Int32) : Int32 := e_let (((8 : Int32) * a1)) (fun z1 : Int32 => e_let (e_run (eL_r_slots_8 m a1 a2) 400 (((0 : Int32), z1))) (fun z3 : Int32 × Int32 => z3.1))
theorem ee_f_r_slots (m : gM) (a1 : Int32) (a2 : Int32) : f_r_slots m a1 a2 = ef_r_slots m a1 a2 := by
  unfold f_r_slots ef_r_slots
  simp only [g_let_e, run_e, ee_L_r_slots_8]
noncomputable def eL_r_inState_4 (m : gM) (x1 : Int32) (z : Int32 × Int32) : Bool × (Int32 × Int32) := (if (12 : Int32) ≤ z.2 then (false, (z.1, z.2)) else (if (m 0 ((96 : Int32) + z.2).toNatClampNeg) = x1 then e_let ((z.1 + (1 : Int32))) (fun z6 : Int32 => e_let ((z.2 + (1 : Int32))) (fun z7 : Int32 => (true, (z6, z7)))) else e_let ((z.1 + (0 : Int32))) (fun z4 : Int32 => e_let ((z.2 + (1 : Int32))) (fun z5 : Int32 => (true, (z4, z5))))))
theorem ee_L_r_inState_4 (m : gM) (x1 : Int32) : L_r_inState_4 m x1 = eL_r_inState_4 m x1 := by
  funext z
  unfold L_r_inState_4 eL_r_inState_4
  simp only [g_let_e]
noncomputable def ef_r_inState (m : gM) (a1 : Int32) : Int32 := e_let (e_run (eL_r_inState_4 m a1) 400 (((0 : Int32), (0 : Int32)))) (fun z2 : Int32 × Int32 => z2.1)
theorem ee_f_r_inState (m : gM) (a1 : Int32) : f_r_inState m a1 = ef_r_inState m a1 := by
  unfold f_r_inState ef_r_inState
  simp only [g_let_e, run_e, ee_L_r_inState_4]
noncomputable def eL_r_freshBlock_4 (m : gM) (z : Int32 × Int32) : Bool × (Int32 × Int32) := (if (12 : Int32) ≤ z.2 then (false, (z.1, z.2)) else (if (m 0 ((96 : Int32) + z.2).toNatClampNeg) = 0 then (if z.1 = (-1 : Int32) then e_let ((z.2 + (1 : Int32))) (fun z6 : Int32 => (true, (z.2, z6))) else (if (m 0 ((120 : Int32) + z.1).toNatClampNeg) ≤ (m 0 ((120 : Int32) + z.2).toNatClampNeg) then e_let ((z.2 + (1 : Int32))) (fun z10 : Int32 => (true, (z.1, z10))) else e_let ((z.2 + (1 : Int32))) (fun z11 : Int32 => (true, (z.2, z11))))) else e_let ((z.2 + (1 : Int32))) (fun z4 : Int32 => (true, (z.1, z4)))))
theorem ee_L_r_freshBlock_4 (m : gM) : L_r_freshBlock_4 m = eL_r_freshBlock_4 m := by
  funext z
  unfold L_r_freshBlock_4 eL_r_freshBlock_4
  simp only [g_let_e]
noncomputable def ef_r_freshBlock (m : gM) : Int32 := e_let (e_run (eL_r_freshBlock_4 m) 400 (((-1 : Int32), (0 : Int32)))) (fun z2 : Int32 × Int32 => z2.1)
theorem ee_f_r_freshBlock (m : gM) : f_r_freshBlock m = ef_r_freshBlock m := by
  unfold f_r_freshBlock ef_r_freshBlock
  simp only [g_let_e, run_e, ee_L_r_freshBlock_4]
noncomputable def eL_r_programs_58 (m : gM) (x1 : Int32) (x2 : Int32) (x3 : Int32) (z : Int32) : Bool × (Int32) := (if (m 0 z.toNatClampNeg) = (-1 : Int32) then (false, z) else e_let ((z + (1 : Int32))) (fun z3 : Int32 => (true, z3)))
theorem ee_L_r_programs_58 (m : gM) (x1 : Int32) (x2 : Int32) (x3 : Int32) : L_r_programs_58 m x1 x2 x3 = eL_r_programs_58 m x1 x2 x3 := by
  funext z
  unfold L_r_programs_58 eL_r_programs_58
  simp only [g_let_e]
noncomputable def ef_r_programs (m : gM) (a1 : Int32) (a2 : Int32) : gM := (if (m 0 ((344 : Int32) + ((2 : Int32) * a2)).toNatClampNeg) = (-1 : Int32) then e_let ((ef_r_freshBlock m)) (fun z24 : Int32 => e_let (g_set m 0 (upd (m 0) ((344 : Int32) + ((2 : Int32) * a2)).toNatClampNeg z24)) (fun z26 : gM => e_let (g_set z26 0 (upd (z26 0) ((96 : Int32) + z24).toNatClampNeg (1 : Int32))) (fun z28 : gM => e_let (g_set z28 0 (upd (z28 0) ((108 : Int32) + z24).toNatClampNeg a2)) (fun z30 : gM => e_let ((z30 0 ((344 : Int32) + ((2 : Int32) * a2)).toNatClampNeg)) (fun z32 : Int32 => e_let (((8 : Int32) * z32)) (fun z33 : Int32 => e_let (e_run (eL_r_programs_58 z30 a1 a2 z32) 400 (z33)) (fun z35 : Int32 => e_let (g_set z30 0 (upd (z30 0) z35.toNatClampNeg a1)) (fun z37 : gM => e_let (g_set z37 0 (upd (z37 0) (((144 : Int32) + ((5 : Int32) * a1)) + (0 : Int32)).toNatClampNeg z35)) (fun z39 : gM => e_let (g_set z39 0 (upd (z39 0) (((344 : Int32) + ((2 : Int32) * a2)) + (1 : Int32)).toNatClampNeg ((z39 0 (((344 : Int32) + ((2 : Int32) * a2)) + (1 : Int32)).toNatClampNeg) + (1 : Int32)))) (fun z42 : gM => (if z35 = ((((8 : Int32) * z32) + (8 : Int32)) - (1 : Int32)) then e_let (g_set z42 0 (upd (z42 0) ((96 : Int32) + z32).toNatClampNeg (2 : Int32))) (fun z45 : gM => e_let (g_set z45 0 (upd (z45 0) ((132 : Int32) + z32).toNatClampNeg (z45 0 (363 : Int32).toNatClampNeg))) (fun z47 : gM => e_let (g_set z47 0 (upd (z47 0) (363 : Int32).toNatClampNeg ((z47 0 (363 : Int32).toNatClampNeg) + (1 : Int32)))) (fun z48 : gM => e_let (g_set z48 0 (upd (z48 0) ((344 : Int32) + ((2 : Int32) * a2)).toNatClampNeg (-1 : Int32))) (fun z50 : gM => z50)))) else z42))))))))))) else e_let ((m 0 ((344 : Int32) + ((2 : Int32) * a2)).toNatClampNeg)) (fun z4 : Int32 => e_let (((8 : Int32) * z4)) (fun z5 : Int32 => e_let (e_run (eL_r_programs_58 m a1 a2 z4) 400 (z5)) (fun z7 : Int32 => e_let (g_set m 0 (upd (m 0) z7.toNatClampNeg a1)) (fun z9 : gM => e_let (g_set z9 0 (upd (z9 0) (((144 : Int32) + ((5 : Int32) * a1)) + (0 : Int32)).toNatClampNeg z7)) (fun z11 : gM => e_let (g_set z11 0 (upd (z11 0) (((344 : Int32) + ((2 : Int32) * a2)) + (1 : Int32)).toNatClampNeg ((z11 0 (((344 : Int32) + ((2 : Int32) * a2)) + (1 : Int32)).toNatClampNeg) + (1 : Int32)))) (fun z14 : gM => (if z7 = ((((8 : Int32) * z4) + (8 : Int32)) - (1 : Int32)) then e_let (g_set z14 0 (upd (z14 0) ((96 : Int32) + z4).toNatClampNeg (2 : Int32))) (fun z17 : gM => e_let (g_set z17 0 (upd (z17 0) ((132 : Int32) + z4).toNatClampNeg (z17 0 (363 : Int32).toNatClampNeg))) (fun z19 : gM => e_let (g_set z19 0 (upd (z19 0) (363 : Int32).toNatClampNeg ((z19 0 (363 : Int32).toNatClampNeg) + (1 : Int32)))) (fun z20 : gM => e_let (g_set z20 0 (upd (z20 0) ((344 : Int32) + ((2 : Int32) * a2)).toNatClampNeg (-1 : Int32))) (fun z22 : gM => z22)))) else z14))))))))
theorem ee_f_r_programs (m : gM) (a1 : Int32) (a2 : Int32) : f_r_programs m a1 a2 = ef_r_programs m a1 a2 := by
  unfold f_r_programs ef_r_programs
  simp only [g_let_e, run_e, ee_L_r_programs_58, ee_f_r_freshBlock]
noncomputable def eL_r_collects_7 (x1 : Int32) (z : Int32 × Int32 × gM) : Bool × (Int32 × Int32 × gM) := (if (((8 : Int32) * x1) + (8 : Int32)) ≤ z.2.1 then (false, (z.1, z.2.1, z.2.2)) else (if (ef_r_isValid z.2.2 z.2.1) = 0 then e_let ((z.2.1 + (1 : Int32))) (fun z4 : Int32 => (true, (z.1, z4, z.2.2))) else e_let ((z.2.2 0 z.2.1.toNatClampNeg)) (fun z6 : Int32 => e_let (ef_r_programs z.2.2 z6 (4 : Int32)) (fun z8 : gM => e_let (g_set z8 0 (upd (z8 0) (((144 : Int32) + ((5 : Int32) * z6)) + (3 : Int32)).toNatClampNeg ((z8 0 (((144 : Int32) + ((5 : Int32) * z6)) + (3 : Int32)).toNatClampNeg) + (1 : Int32)))) (fun z11 : gM => e_let (g_set z11 0 (upd (z11 0) (((144 : Int32) + ((5 : Int32) * z6)) + (4 : Int32)).toNatClampNeg ((z11 0 (((144 : Int32) + ((5 : Int32) * z6)) + (4 : Int32)).toNatClampNeg) + (1 : Int32)))) (fun z14 : gM => e_let (g_set z14 0 (upd (z14 0) ((354 : Int32) + (ef_r_of z14 z6 (1 : Int32))).toNatClampNeg ((z14 0 ((354 : Int32) + (ef_r_of z14 z6 (1 : Int32))).toNatClampNeg) + (1 : Int32)))) (fun z18 : gM => e_let ((z.1 + (1 : Int32))) (fun z19 : Int32 => e_let ((z.2.1 + (1 : Int32))) (fun z20 : Int32 => (true, (z19, z20, z18)))))))))))
theorem ee_L_r_collects_7 (x1 : Int32) : L_r_collects_7 x1 = eL_r_collects_7 x1 := by
  funext z
  unfold L_r_collects_7 eL_r_collects_7
  simp only [g_let_e, ee_f_r_isValid, ee_f_r_of, ee_f_r_programs]
noncomputable def eL_r_collects_110 (x1 : Int32) (x2 : Int32) (z : Int32 × gM) : Bool × (Int32 × gM) := (if (((8 : Int32) * x1) + (8 : Int32)) ≤ z.1 then (false, (z.1, z.2)) else e_let (g_set z.2 0 (upd (z.2 0) z.1.toNatClampNeg (-1 : Int32))) (fun z3 : gM => e_let ((z.1 + (1 : Int32))) (fun z4 : Int32 => (true, (z4, z3)))))
theorem ee_L_r_collects_110 (x1 : Int32) (x2 : Int32) : L_r_collects_110 x1 x2 = eL_r_collects_110 x1 x2 := by
  funext z
  unfold L_r_collects_110 eL_r_collects_110
  simp only [g_let_e]
noncomputable def ef_r_collects (m : gM) (a1 : Int32) : Int32 × gM := e_let (((8 : Int32) * a1)) (fun z1 : Int32 => e_let (e_run (eL_r_collects_7 a1) 400 (((0 : Int32), z1, m))) (fun z3 : Int32 × Int32 × gM => e_let (g_set z3.2.2 0 (upd (z3.2.2 0) (361 : Int32).toNatClampNeg ((z3.2.2 0 (361 : Int32).toNatClampNeg) + z3.1))) (fun z4 : gM => e_let (((8 : Int32) * a1)) (fun z5 : Int32 => e_let (e_run (eL_r_collects_110 a1 z3.1) 400 ((z5, z4))) (fun z7 : Int32 × gM => e_let (g_set z7.2 0 (upd (z7.2 0) ((96 : Int32) + a1).toNatClampNeg (0 : Int32))) (fun z9 : gM => e_let (g_set z9 0 (upd (z9 0) ((108 : Int32) + a1).toNatClampNeg (-1 : Int32))) (fun z11 : gM => e_let (g_set z11 0 (upd (z11 0) ((120 : Int32) + a1).toNatClampNeg ((z11 0 ((120 : Int32) + a1).toNatClampNeg) + (1 : Int32)))) (fun z14 : gM => e_let (g_set z14 0 (upd (z14 0) (362 : Int32).toNatClampNeg ((z14 0 (362 : Int32).toNatClampNeg) + (1 : Int32)))) (fun z15 : gM => (z3.1, z15))))))))))
theorem ee_f_r_collects (m : gM) (a1 : Int32) : f_r_collects m a1 = ef_r_collects m a1 := by
  unfold f_r_collects ef_r_collects
  simp only [g_let_e, run_e, ee_L_r_collects_110, ee_L_r_collects_7]
noncomputable def ef_r_weight (m : gM) (a1 : Int32) : Int32 := (if (m 0 (358 : Int32).toNatClampNeg) = 0 then (0 : Int32) else (if (m 0 (358 : Int32).toNatClampNeg) = (1 : Int32) then (m 0 ((132 : Int32) + a1).toNatClampNeg) else (m 0 ((120 : Int32) + a1).toNatClampNeg)))
theorem ee_f_r_weight (m : gM) (a1 : Int32) : f_r_weight m a1 = ef_r_weight m a1 := by
  unfold f_r_weight ef_r_weight
  rfl
noncomputable def eL_r_victim_4 (m : gM) (z : Int32 × Int32) : Bool × (Int32 × Int32) := (if (12 : Int32) ≤ z.2 then (false, (z.1, z.2)) else (if (m 0 ((96 : Int32) + z.2).toNatClampNeg) = (2 : Int32) then (if (ef_r_slots m z.2 (1 : Int32)) ≤ 0 then e_let ((z.2 + (1 : Int32))) (fun z7 : Int32 => (true, (z.1, z7))) else (if z.1 = (-1 : Int32) then (if z.1 = (-1 : Int32) then e_let ((z.2 + (1 : Int32))) (fun z33 : Int32 => (true, (z.2, z33))) else e_let (((ef_r_slots m z.2 (0 : Int32)) - (ef_r_slots m z.1 (0 : Int32)))) (fun z31 : Int32 => e_let ((z.2 + (1 : Int32))) (fun z32 : Int32 => (true, (z.2, z32))))) else e_let (((ef_r_weight m z.2) - (ef_r_weight m z.1))) (fun z11 : Int32 => (if z.1 = (-1 : Int32) then (if z11 < 0 then e_let ((z.2 + (1 : Int32))) (fun z24 : Int32 => (true, (z.2, z24))) else (if z11 = 0 then e_let ((z.2 + (1 : Int32))) (fun z27 : Int32 => (true, (z.2, z27))) else e_let ((z.2 + (1 : Int32))) (fun z26 : Int32 => (true, (z.1, z26))))) else e_let (((ef_r_slots m z.2 (0 : Int32)) - (ef_r_slots m z.1 (0 : Int32)))) (fun z15 : Int32 => (if z11 < 0 then e_let ((z.2 + (1 : Int32))) (fun z17 : Int32 => (true, (z.2, z17))) else (if z11 = 0 then (if 0 ≤ z15 then e_let ((z.2 + (1 : Int32))) (fun z21 : Int32 => (true, (z.1, z21))) else e_let ((z.2 + (1 : Int32))) (fun z22 : Int32 => (true, (z.2, z22)))) else e_let ((z.2 + (1 : Int32))) (fun z19 : Int32 => (true, (z.1, z19)))))))))) else e_let ((z.2 + (1 : Int32))) (fun z4 : Int32 => (true, (z.1, z4)))))
theorem ee_L_r_victim_4 (m : gM) : L_r_victim_4 m = eL_r_victim_4 m := by
  funext z
  unfold L_r_victim_4 eL_r_victim_4
  simp only [g_let_e, ee_f_r_slots, ee_f_r_weight]
noncomputable def ef_r_victim (m : gM) : Int32 := e_let (e_run (eL_r_victim_4 m) 400 (((-1 : Int32), (0 : Int32)))) (fun z2 : Int32 × Int32 => z2.1)
theorem ee_f_r_victim (m : gM) : f_r_victim m = ef_r_victim m := by
  unfold f_r_victim ef_r_victim
  simp only [g_let_e, run_e, ee_L_r_victim_4]
noncomputable def eL_r_frees_7 (x1 : Int32) (z : Int32 × Int32 × gM) : Bool × (Int32 × Int32 × gM) := (if x1 ≤ (ef_r_inState z.2.2 (0 : Int32)) then (false, (z.1, z.2.1, z.2.2)) else (if z.2.1 = (-1 : Int32) then (false, (z.1, z.2.1, z.2.2)) else e_let (ef_r_collects z.2.2 z.2.1) (fun z5 : Int32 × gM => e_let ((z.1 + z5.1)) (fun z6 : Int32 => e_let ((ef_r_victim z5.2)) (fun z8 : Int32 => (true, (z6, z8, z5.2)))))))
theorem ee_L_r_frees_7 (x1 : Int32) : L_r_frees_7 x1 = eL_r_frees_7 x1 := by
  funext z
  unfold L_r_frees_7 eL_r_frees_7
  simp only [g_let_e, ee_f_r_collects, ee_f_r_inState, ee_f_r_victim]
noncomputable def ef_r_frees (m : gM) (a1 : Int32) : Int32 × gM := e_let ((ef_r_victim m)) (fun z2 : Int32 => e_let (e_run (eL_r_frees_7 a1) 400 (((0 : Int32), z2, m))) (fun z4 : Int32 × Int32 × gM => (z4.1, z4.2.2)))
theorem ee_f_r_frees (m : gM) (a1 : Int32) : f_r_frees m a1 = ef_r_frees m a1 := by
  unfold f_r_frees ef_r_frees
  simp only [g_let_e, run_e, ee_L_r_frees_7, ee_f_r_victim]
noncomputable def ef_r_writes (m : gM) (a1 : Int32) (a2 : Int32) : Int32 × gM := e_let (ef_r_frees m (m 0 (359 : Int32).toNatClampNeg)) (fun z2 : Int32 × gM => e_let (g_set z2.2 0 (upd (z2.2 0) (((144 : Int32) + ((5 : Int32) * a1)) + (1 : Int32)).toNatClampNeg a2)) (fun z4 : gM => e_let (ef_r_programs z4 a1 a2) (fun z6 : gM => e_let (g_set z6 0 (upd (z6 0) (((144 : Int32) + ((5 : Int32) * a1)) + (2 : Int32)).toNatClampNeg ((z6 0 (((144 : Int32) + ((5 : Int32) * a1)) + (2 : Int32)).toNatClampNeg) + (1 : Int32)))) (fun z9 : gM => e_let (g_set z9 0 (upd (z9 0) (((144 : Int32) + ((5 : Int32) * a1)) + (4 : Int32)).toNatClampNeg (0 : Int32))) (fun z11 : gM => e_let (g_set z11 0 (upd (z11 0) (360 : Int32).toNatClampNeg ((z11 0 (360 : Int32).toNatClampNeg) + (1 : Int32)))) (fun z12 : gM => (z2.1, z12)))))))
theorem ee_f_r_writes (m : gM) (a1 : Int32) (a2 : Int32) : f_r_writes m a1 a2 = ef_r_writes m a1 a2 := by
  unfold f_r_writes ef_r_writes
  simp only [g_let_e, ee_f_r_frees, ee_f_r_programs]
noncomputable def ef_r_ofPage (m : gM) (a1 : Int32) (a2 : Int32) : Int32 := e_let ((ef_r_of (g_sel [1] m) a1 (0 : Int32))) (fun z2 : Int32 => (if a2 = 0 then (if z2 = (-1 : Int32) then (-1 : Int32) else (z2 / (8 : Int32))) else (if a2 = (1 : Int32) then (if z2 = (-1 : Int32) then (-1 : Int32) else (z2 - z2 / (8 : Int32) * (8 : Int32))) else (if a2 = (2 : Int32) then (ef_r_of (g_sel [1] m) a1 (1 : Int32)) else (ef_r_of (g_sel [1] m) a1 (a2 - (1 : Int32)))))))
theorem ee_f_r_ofPage (m : gM) (a1 : Int32) (a2 : Int32) : f_r_ofPage m a1 a2 = ef_r_ofPage m a1 a2 := by
  unfold f_r_ofPage ef_r_ofPage
  simp only [g_let_e, ee_f_r_of]
noncomputable def eL_r_closedAhead_19 (m : gM) (x1 : Int32) (z : Int32 × Int32) : Bool × (Int32 × Int32) := (if (12 : Int32) ≤ z.2 then (false, (z.1, z.2)) else (if (m 1 ((96 : Int32) + z.2).toNatClampNeg) = (2 : Int32) then (if (m 1 ((132 : Int32) + x1).toNatClampNeg) ≤ (m 1 ((132 : Int32) + z.2).toNatClampNeg) then e_let ((z.1 + (0 : Int32))) (fun z9 : Int32 => e_let ((z.2 + (1 : Int32))) (fun z10 : Int32 => (true, (z9, z10)))) else e_let ((z.1 + (1 : Int32))) (fun z11 : Int32 => e_let ((z.2 + (1 : Int32))) (fun z12 : Int32 => (true, (z11, z12))))) else e_let ((z.1 + (0 : Int32))) (fun z4 : Int32 => e_let ((z.2 + (1 : Int32))) (fun z5 : Int32 => (true, (z4, z5))))))
theorem ee_L_r_closedAhead_19 (m : gM) (x1 : Int32) : L_r_closedAhead_19 m x1 = eL_r_closedAhead_19 m x1 := by
  funext z
  unfold L_r_closedAhead_19 eL_r_closedAhead_19
  simp only [g_let_e]
noncomputable def ef_r_closedAhead (m : gM) (a1 : Int32) : Int32 := (if (m 1 ((96 : Int32) + a1).toNatClampNeg) = (2 : Int32) then e_let (e_run (eL_r_closedAhead_19 m a1) 400 (((0 : Int32), (0 : Int32)))) (fun z4 : Int32 × Int32 => z4.1) else (-1 : Int32))
theorem ee_f_r_closedAhead (m : gM) (a1 : Int32) : f_r_closedAhead m a1 = ef_r_closedAhead m a1 := by
  unfold f_r_closedAhead ef_r_closedAhead
  simp only [g_let_e, run_e, ee_L_r_closedAhead_19]
noncomputable def eL_r_unlikeHints_7 (m : gM) (x1 : Int32) (z : Int32 × Int32) : Bool × (Int32 × Int32) := (if (((8 : Int32) * x1) + (8 : Int32)) ≤ z.2 then (false, (z.1, z.2)) else (if (ef_r_isValid (g_sel [1] m) z.2) = 0 then e_let ((z.1 ||| (0 : Int32))) (fun z4 : Int32 => e_let ((z.2 + (1 : Int32))) (fun z5 : Int32 => (true, (z4, z5)))) else e_let ((z.1 ||| ((1 : Int32) <<< ((ef_r_of (g_sel [1] m) (m 1 z.2.toNatClampNeg) (1 : Int32)) &&& 31)))) (fun z8 : Int32 => e_let ((z.2 + (1 : Int32))) (fun z9 : Int32 => (true, (z8, z9))))))
theorem ee_L_r_unlikeHints_7 (m : gM) (x1 : Int32) : L_r_unlikeHints_7 m x1 = eL_r_unlikeHints_7 m x1 := by
  funext z
  unfold L_r_unlikeHints_7 eL_r_unlikeHints_7
  simp only [g_let_e, ee_f_r_isValid, ee_f_r_of]
noncomputable def ef_r_unlikeHints (m : gM) (a1 : Int32) : Int32 := e_let (((8 : Int32) * a1)) (fun z1 : Int32 => e_let (e_run (eL_r_unlikeHints_7 m a1) 400 (((0 : Int32), z1))) (fun z3 : Int32 × Int32 => ((((z3.1 &&& (1 : Int32)) + ((z3.1 >>> ((1 : Int32) &&& 31)) &&& (1 : Int32))) + ((z3.1 >>> ((2 : Int32) &&& 31)) &&& (1 : Int32))) + ((z3.1 >>> ((3 : Int32) &&& 31)) &&& (1 : Int32)))))
theorem ee_f_r_unlikeHints (m : gM) (a1 : Int32) : f_r_unlikeHints m a1 = ef_r_unlikeHints m a1 := by
  unfold f_r_unlikeHints ef_r_unlikeHints
  simp only [g_let_e, run_e, ee_L_r_unlikeHints_7]
noncomputable def ef_r_ofBlock (m : gM) (a1 : Int32) (a2 : Int32) : Int32 := (if a2 = (0 : Int32) then (m 1 ((96 : Int32) + a1).toNatClampNeg) else (if a2 = (1 : Int32) then (m 1 ((108 : Int32) + a1).toNatClampNeg) else (if a2 = (2 : Int32) then (ef_r_slots (g_sel [1] m) a1 (a2 - (2 : Int32))) else (if a2 = (3 : Int32) then (ef_r_slots (g_sel [1] m) a1 (a2 - (2 : Int32))) else (if a2 = (4 : Int32) then (ef_r_slots (g_sel [1] m) a1 (a2 - (2 : Int32))) else (if a2 = (5 : Int32) then (m 1 ((120 : Int32) + a1).toNatClampNeg) else (if a2 = (6 : Int32) then (ef_r_closedAhead m a1) else (ef_r_unlikeHints m a1))))))))
theorem ee_f_r_ofBlock (m : gM) (a1 : Int32) (a2 : Int32) : f_r_ofBlock m a1 a2 = ef_r_ofBlock m a1 a2 := by
  unfold f_r_ofBlock ef_r_ofBlock
  simp only [ee_f_r_closedAhead, ee_f_r_slots, ee_f_r_unlikeHints]
noncomputable def eL_r_withHint_4 (m : gM) (x1 : Int32) (z : Int32 × Int32) : Bool × (Int32 × Int32) := (if (40 : Int32) ≤ z.2 then (false, (z.1, z.2)) else (if (ef_r_of (g_sel [1] m) z.2 (1 : Int32)) = x1 then e_let ((z.1 + (1 : Int32))) (fun z6 : Int32 => e_let ((z.2 + (1 : Int32))) (fun z7 : Int32 => (true, (z6, z7)))) else e_let ((z.1 + (0 : Int32))) (fun z4 : Int32 => e_let ((z.2 + (1 : Int32))) (fun z5 : Int32 => (true, (z4, z5))))))
theorem ee_L_r_withHint_4 (m : gM) (x1 : Int32) : L_r_withHint_4 m x1 = eL_r_withHint_4 m x1 := by
  funext z
  unfold L_r_withHint_4 eL_r_withHint_4
  simp only [g_let_e, ee_f_r_of]
noncomputable def ef_r_withHint (m : gM) (a1 : Int32) : Int32 := e_let (e_run (eL_r_withHint_4 m a1) 400 (((0 : Int32), (0 : Int32)))) (fun z2 : Int32 × Int32 => z2.1)
theorem ee_f_r_withHint (m : gM) (a1 : Int32) : f_r_withHint m a1 = ef_r_withHint m a1 := by
  unfold f_r_withHint ef_r_withHint
  simp only [g_let_e, run_e, ee_L_r_withHint_4]
noncomputable def ef_r_ofStream (m : gM) (a1 : Int32) (a2 : Int32) : Int32 := e_let ((m 1 (((344 : Int32) + ((2 : Int32) * a1)) + (1 : Int32)).toNatClampNeg)) (fun z2 : Int32 => (if a1 = (4 : Int32) then (if a2 = (0 : Int32) then (m 1 ((344 : Int32) + ((2 : Int32) * a1)).toNatClampNeg) else (if a2 = (1 : Int32) then z2 else (if a2 = (2 : Int32) then (if a1 = (4 : Int32) then (0 : Int32) else (ef_r_withHint m a1)) else (if a2 = (3 : Int32) then (0 : Int32) else (if z2 = 0 then (0 : Int32) else (((100 : Int32) * (z2 + (0 : Int32))) / z2)))))) else e_let ((m 1 ((354 : Int32) + a1).toNatClampNeg)) (fun z5 : Int32 => (if a2 = (0 : Int32) then (m 1 ((344 : Int32) + ((2 : Int32) * a1)).toNatClampNeg) else (if a2 = (1 : Int32) then z2 else (if a2 = (2 : Int32) then (if a1 = (4 : Int32) then (0 : Int32) else (ef_r_withHint m a1)) else (if a2 = (3 : Int32) then z5 else (if z2 = 0 then (0 : Int32) else (((100 : Int32) * (z2 + z5)) / z2)))))))))
theorem ee_f_r_ofStream (m : gM) (a1 : Int32) (a2 : Int32) : f_r_ofStream m a1 a2 = ef_r_ofStream m a1 a2 := by
  unfold f_r_ofStream ef_r_ofStream
  simp only [g_let_e, ee_f_r_withHint]
noncomputable def eL_r_allSlots_4 (m : gM) (x1 : Int32) (z : Int32 × Int32) : Bool × (Int32 × Int32) := (if (12 : Int32) ≤ z.2 then (false, (z.1, z.2)) else e_let ((z.1 + (ef_r_slots (g_sel [1] m) z.2 x1))) (fun z3 : Int32 => e_let ((z.2 + (1 : Int32))) (fun z4 : Int32 => (true, (z3, z4)))))
theorem ee_L_r_allSlots_4 (m : gM) (x1 : Int32) : L_r_allSlots_4 m x1 = eL_r_allSlots_4 m x1 := by
  funext z
  unfold L_r_allSlots_4 eL_r_allSlots_4
  simp only [g_let_e, ee_f_r_slots]
noncomputable def ef_r_allSlots (m : gM) (a1 : Int32) : Int32 := e_let (e_run (eL_r_allSlots_4 m a1) 400 (((0 : Int32), (0 : Int32)))) (fun z2 : Int32 × Int32 => z2.1)
theorem ee_f_r_allSlots (m : gM) (a1 : Int32) : f_r_allSlots m a1 = ef_r_allSlots m a1 := by
  unfold f_r_allSlots ef_r_allSlots
  simp only [g_let_e, run_e, ee_L_r_allSlots_4]
noncomputable def eL_r_unlikeErasures_18 (m : gM) (z : Int32 × Int32 × Int32) : Bool × (Int32 × Int32 × Int32) := (if (12 : Int32) ≤ z.2.2 then (false, (z.1, z.2.1, z.2.2)) else (if z.1 ≤ (m 1 ((120 : Int32) + z.2.2).toNatClampNeg) then (if (m 1 ((120 : Int32) + z.2.2).toNatClampNeg) ≤ z.2.1 then e_let ((z.2.2 + (1 : Int32))) (fun z6 : Int32 => (true, (z.1, z.2.1, z6))) else e_let ((m 1 ((120 : Int32) + z.2.2).toNatClampNeg)) (fun z8 : Int32 => e_let ((z.2.2 + (1 : Int32))) (fun z9 : Int32 => (true, (z.1, z8, z9))))) else e_let ((m 1 ((120 : Int32) + z.2.2).toNatClampNeg)) (fun z11 : Int32 => (if (m 1 ((120 : Int32) + z.2.2).toNatClampNeg) ≤ z.2.1 then e_let ((z.2.2 + (1 : Int32))) (fun z14 : Int32 => (true, (z11, z.2.1, z14))) else e_let ((m 1 ((120 : Int32) + z.2.2).toNatClampNeg)) (fun z16 : Int32 => e_let ((z.2.2 + (1 : Int32))) (fun z17 : Int32 => (true, (z11, z16, z17))))))))
theorem ee_L_r_unlikeErasures_18 (m : gM) : L_r_unlikeErasures_18 m = eL_r_unlikeErasures_18 m := by
  funext z
  unfold L_r_unlikeErasures_18 eL_r_unlikeErasures_18
  simp only [g_let_e]
noncomputable def ef_r_unlikeErasures (m : gM) : Int32 := e_let ((m 1 (120 : Int32).toNatClampNeg)) (fun z1 : Int32 => e_let ((m 1 (120 : Int32).toNatClampNeg)) (fun z2 : Int32 => e_let (e_run (eL_r_unlikeErasures_18 m) 400 ((z1, z2, (1 : Int32)))) (fun z4 : Int32 × Int32 × Int32 => (z4.2.1 - z4.1))))
theorem ee_f_r_unlikeErasures (m : gM) : f_r_unlikeErasures m = ef_r_unlikeErasures m := by
  unfold f_r_unlikeErasures ef_r_unlikeErasures
  simp only [g_let_e, run_e, ee_L_r_unlikeErasures_18]
noncomputable def ef_r_counted (m : gM) (a1 : Int32) : Int32 := (if a1 = (0 : Int32) then (ef_r_allSlots m (0 : Int32)) else (if a1 = (1 : Int32) then (ef_r_inState (g_sel [1] m) (a1 - (1 : Int32))) else (if a1 = (2 : Int32) then (ef_r_inState (g_sel [1] m) (a1 - (1 : Int32))) else (if a1 = (3 : Int32) then (ef_r_inState (g_sel [1] m) (a1 - (1 : Int32))) else (if a1 = (4 : Int32) then (ef_r_allSlots m (a1 - (3 : Int32))) else (if a1 = (5 : Int32) then (ef_r_allSlots m (a1 - (3 : Int32))) else (if a1 = (6 : Int32) then (m 1 (360 : Int32).toNatClampNeg) else (if a1 = (7 : Int32) then (m 1 (361 : Int32).toNatClampNeg) else (if a1 = (8 : Int32) then (m 1 (362 : Int32).toNatClampNeg) else (if a1 = (9 : Int32) then (ef_r_unlikeErasures m) else (if a1 = (10 : Int32) then (ef_r_victim (g_sel [1] m)) else (m 0 3))))))))))))
theorem ee_f_r_counted (m : gM) (a1 : Int32) : f_r_counted m a1 = ef_r_counted m a1 := by
  unfold f_r_counted ef_r_counted
  simp only [ee_f_r_allSlots, ee_f_r_inState, ee_f_r_unlikeErasures, ee_f_r_victim]
noncomputable def ef_r_amplified (m : gM) : UInt64 := e_let ((m 1 (360 : Int32).toNatClampNeg)) (fun z1 : Int32 => (if z1 = 0 then FP.dconst1 else (FP.ddiv (FP.i2d (z1 + (m 1 (361 : Int32).toNatClampNeg))) (FP.i2d z1))))
theorem ee_f_r_amplified (m : gM) : f_r_amplified m = ef_r_amplified m := by
  unfold f_r_amplified ef_r_amplified
  simp only [g_let_e]
/-- a row as one number, 32 bits a place -/
def rwN (T : Nat) : Nat → Int32 := fun j => if j < 364 then Int32.ofNat ((T >>> (32 * j)) % 4294967296) else 0
def pk (f : Nat → Int32) : Nat → Nat
  | 0 => 0
  | n + 1 => pk f n + (f n).toUInt32.toNat <<< (32 * n)
