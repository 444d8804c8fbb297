/-! the law's call and told, method by method -/
abbrev rmC : Room := { frames := 6, cells := 0, slots := 0, locals := 141 }
abbrev rmCx : Room := { frames := 7, cells := 1, slots := 6, locals := 129 }
abbrev rmT : Room := { frames := 8, cells := 1, slots := 6, locals := 165 }
theorem wf_shH : g_wf shH = true := by decide +kernel
theorem len_shH : shH.length = 132 := by decide +kernel
set_option maxRecDepth 20000 in
theorem kt_IO : Cond.classLink RL 79 "java/lang/IndexOutOfBoundsException" ∈ wsL_told := by decide +kernel
set_option maxRecDepth 20000 in
theorem kt_IA : Cond.classLink RL 81 "java/lang/IllegalArgumentException" ∈ wsL_told := by decide +kernel
set_option maxRecDepth 20000 in
theorem kt_IS : Cond.classLink RL 83 "java/lang/IllegalStateException" ∈ wsL_told := by decide +kernel
set_option maxRecDepth 100000 in
set_option maxHeartbeats 4000000 in
theorem cC_write (l : Launch) (G : gG) (q : Nat → Nat) (m : gM) (h : gN) (a1 a2 a3 : Int32) (hok : o_h_write m a1 a2) : gMpi l yL_call wsL_call rmC G shH q 4 m h [.ref (q 0), .int 0, .int a1, .int a2, .int a3] ((f_h_write m a1 a2).2) h (f_h_write m a1 a2).1 := by
  intro sz
  refine g_met (cc := cL_call) (maxL := 5) (ret := (some .int)) (own := RL) (Qc := fun sz => gQpi G shH q 4 ((f_h_write m a1 a2).2) h sz (f_h_write m a1 a2).1) (by decide) rfl rfl (Nat.le_of_ble_eq_true rfl) (fun p e s m9 below meth c C hq hr => ?_)
  refine x_lv (lv' := [(0, .ref (q 0)), (1, .int 0), (2, .int a1), (3, .int a2), (4, .int a3)]) [0, 1, 2, 3, 4] rfl ?_
  refine x_iload_n C dL_call_0 rfl 1 rfl ?_
  refine x_tin (v := (0 : Int32)) (tgt := 88) C dL_call_1 rfl (by decide) (by decide) rfl (by decide) ?_
  refine x_aload_n C dL_call_88 rfl 0 rfl ?_
  refine x_iload_n C dL_call_89 rfl 2 rfl ?_
  refine x_iload_n C dL_call_90 rfl 3 rfl ?_
  refine x_callVpi (n := 2) (n4 := 4) C hq (c_h_write l G q m h a1 a2 hok) (cwV 2 C.2.2.2.2.2.1 gL_call_X2_write rfl rfl rfl (by decide +kernel) ⟨Nat.le_of_ble_eq_true rfl, Nat.le_of_ble_eq_true rfl⟩) rfl rfl rfl rfl (Nat.le_of_ble_eq_true rfl) dL_call_91 (Nat.zero_le _) (Nat.zero_le _) (fun q1 h4 hq1 => ?_)
  exact g_pret C hq1 h4 hr dL_call_94 rfl rfl rfl
set_option maxRecDepth 100000 in
set_option maxHeartbeats 4000000 in
theorem cT_write (l : Launch) (G : gG) (q : Nat → Nat) (m : gM) (h : gN) (a1 a2 a3 : Int32) (hok : o_h_write m a1 a2) : gMz l yL_told wsL_told rmT G shH q 4 m h [.ref (q 0), .int 0, .int a1, .int a2, .int a3] ((f_h_write m a1 a2).2) h (f_h_write m a1 a2).1 1 6 := by
  intro sz
  refine g_metw (cc := cL_told) (maxL := 6) (ret := (some .int)) (own := RL) (hh := [(0, 9, 10, 79), (0, 9, 15, 81), (0, 9, 20, 83)]) (Qc := fun sz => gQpi G shH q 4 ((f_h_write m a1 a2).2) h sz (f_h_write m a1 a2).1) (by decide) rfl rfl (Nat.le_of_ble_eq_true rfl) (fun p e s m9 below meth c C hq hX htab hr => ?_)
  refine x_lv (lv' := [(0, .ref (q 0)), (1, .int 0), (2, .int a1), (3, .int a2), (4, .int a3)]) [0, 1, 2, 3, 4] rfl ?_
  refine x_aload_n C dL_told_0 rfl 0 rfl ?_
  refine x_iload_n C dL_told_1 rfl 1 rfl ?_
  refine x_iload_n C dL_told_2 rfl 2 rfl ?_
  refine x_iload_n C dL_told_3 rfl 3 rfl ?_
  refine x_iload C dL_told_4 4 rfl ?_
  refine x_callSpi (n := 5) (n4 := 4) C hq (cC_write l G q m h a1 a2 a3 hok) (va_cwS 5 C.2.2.2.2.2.1 gL_told_L_call rfl rfl rfl (by decide +kernel) ⟨Nat.le_of_ble_eq_true rfl, Nat.le_of_ble_eq_true rfl⟩) rfl rfl (Nat.le_of_ble_eq_true rfl) dL_told_6 (Nat.zero_le _) (Nat.zero_le _) (fun q1 h4 hq1 => ?_)
  exact g_pzret C hq1 h4 hr rfl dL_told_9 rfl rfl rfl (Nat.zero_le _) (Nat.zero_le _)
set_option maxRecDepth 100000 in
set_option maxHeartbeats 4000000 in
theorem cC_writeRow (l : Launch) (G : gG) (q : Nat → Nat) (m : gM) (h : gN) (a1 a2 a3 : Int32) (hok : o_h_writeRow m a1 a2 a3) : gMpi l yL_call wsL_call rmC G shH q 4 m h [.ref (q 0), .int 1, .int a1, .int a2, .int a3] ((f_h_writeRow m a1 a2 a3).2) h (f_h_writeRow m a1 a2 a3).1 := by
  intro sz
  refine g_met (cc := cL_call) (maxL := 5) (ret := (some .int)) (own := RL) (Qc := fun sz => gQpi G shH q 4 ((f_h_writeRow m a1 a2 a3).2) h sz (f_h_writeRow m a1 a2 a3).1) (by decide) rfl rfl (Nat.le_of_ble_eq_true rfl) (fun p e s m9 below meth c C hq hr => ?_)
  refine x_lv (lv' := [(0, .ref (q 0)), (1, .int 1), (2, .int a1), (3, .int a2), (4, .int a3)]) [0, 1, 2, 3, 4] rfl ?_
  refine x_iload_n C dL_call_0 rfl 1 rfl ?_
  refine x_tin (v := (1 : Int32)) (tgt := 95) C dL_call_1 rfl (by decide) (by decide) rfl (by decide) ?_
  refine x_aload_n C dL_call_95 rfl 0 rfl ?_
  refine x_iload_n C dL_call_96 rfl 2 rfl ?_
  refine x_iload_n C dL_call_97 rfl 3 rfl ?_
  refine x_iload C dL_call_98 4 rfl ?_
  refine x_callVpi (n := 3) (n4 := 4) C hq (c_h_writeRow l G q m h a1 a2 a3 hok) (cwV 3 C.2.2.2.2.2.1 gL_call_X2_writeRow rfl rfl rfl (by decide +kernel) ⟨Nat.le_of_ble_eq_true rfl, Nat.le_of_ble_eq_true rfl⟩) rfl rfl rfl rfl (Nat.le_of_ble_eq_true rfl) dL_call_100 (Nat.zero_le _) (Nat.zero_le _) (fun q1 h4 hq1 => ?_)
  exact g_pret C hq1 h4 hr dL_call_103 rfl rfl rfl
set_option maxRecDepth 100000 in
set_option maxHeartbeats 4000000 in
theorem cT_writeRow (l : Launch) (G : gG) (q : Nat → Nat) (m : gM) (h : gN) (a1 a2 a3 : Int32) (hok : o_h_writeRow m a1 a2 a3) : gMz l yL_told wsL_told rmT G shH q 4 m h [.ref (q 0), .int 1, .int a1, .int a2, .int a3] ((f_h_writeRow m a1 a2 a3).2) h (f_h_writeRow m a1 a2 a3).1 1 6 := by
  intro sz
  refine g_metw (cc := cL_told) (maxL := 6) (ret := (some .int)) (own := RL) (hh := [(0, 9, 10, 79), (0, 9, 15, 81), (0, 9, 20, 83)]) (Qc := fun sz => gQpi G shH q 4 ((f_h_writeRow m a1 a2 a3).2) h sz (f_h_writeRow m a1 a2 a3).1) (by decide) rfl rfl (Nat.le_of_ble_eq_true rfl) (fun p e s m9 below meth c C hq hX htab hr => ?_)
  refine x_lv (lv' := [(0, .ref (q 0)), (1, .int 1), (2, .int a1), (3, .int a2), (4, .int a3)]) [0, 1, 2, 3, 4] rfl ?_
  refine x_aload_n C dL_told_0 rfl 0 rfl ?_
  refine x_iload_n C dL_told_1 rfl 1 rfl ?_
  refine x_iload_n C dL_told_2 rfl 2 rfl ?_
  refine x_iload_n C dL_told_3 rfl 3 rfl ?_
  refine x_iload C dL_told_4 4 rfl ?_
  refine x_callSpi (n := 5) (n4 := 4) C hq (cC_writeRow l G q m h a1 a2 a3 hok) (va_cwS 5 C.2.2.2.2.2.1 gL_told_L_call rfl rfl rfl (by decide +kernel) ⟨Nat.le_of_ble_eq_true rfl, Nat.le_of_ble_eq_true rfl⟩) rfl rfl (Nat.le_of_ble_eq_true rfl) dL_told_6 (Nat.zero_le _) (Nat.zero_le _) (fun q1 h4 hq1 => ?_)
  exact g_pzret C hq1 h4 hr rfl dL_told_9 rfl rfl rfl (Nat.zero_le _) (Nat.zero_le _)
set_option maxRecDepth 100000 in
set_option maxHeartbeats 4000000 in
theorem cC_hint (l : Launch) (G : gG) (q : Nat → Nat) (m : gM) (h : gN) (a1 a2 a3 : Int32) (hok : o_h_hint m a1 a2) : gMpi l yL_call wsL_call rmC G shH q 4 m h [.ref (q 0), .int 3, .int a1, .int a2, .int a3] ((f_h_hint m a1 a2).2) h (f_h_hint m a1 a2).1 := by
  intro sz
  refine g_met (cc := cL_call) (maxL := 5) (ret := (some .int)) (own := RL) (Qc := fun sz => gQpi G shH q 4 ((f_h_hint m a1 a2).2) h sz (f_h_hint m a1 a2).1) (by decide) rfl rfl (Nat.le_of_ble_eq_true rfl) (fun p e s m9 below meth c C hq hr => ?_)
  refine x_lv (lv' := [(0, .ref (q 0)), (1, .int 3), (2, .int a1), (3, .int a2), (4, .int a3)]) [0, 1, 2, 3, 4] rfl ?_
  refine x_iload_n C dL_call_0 rfl 1 rfl ?_
  refine x_tin (v := (3 : Int32)) (tgt := 110) C dL_call_1 rfl (by decide) (by decide) rfl (by decide) ?_
  refine x_aload_n C dL_call_110 rfl 0 rfl ?_
  refine x_iload_n C dL_call_111 rfl 2 rfl ?_
  refine x_iload_n C dL_call_112 rfl 3 rfl ?_
  refine x_callVpi (n := 2) (n4 := 4) C hq (c_h_hint l G q m h a1 a2 hok) (cwV 2 C.2.2.2.2.2.1 gL_call_X2_hint rfl rfl rfl (by decide +kernel) ⟨Nat.le_of_ble_eq_true rfl, Nat.le_of_ble_eq_true rfl⟩) rfl rfl rfl rfl (Nat.le_of_ble_eq_true rfl) dL_call_113 (Nat.zero_le _) (Nat.zero_le _) (fun q1 h4 hq1 => ?_)
  exact g_pret C hq1 h4 hr dL_call_116 rfl rfl rfl
set_option maxRecDepth 100000 in
set_option maxHeartbeats 4000000 in
theorem cT_hint (l : Launch) (G : gG) (q : Nat → Nat) (m : gM) (h : gN) (a1 a2 a3 : Int32) (hok : o_h_hint m a1 a2) : gMz l yL_told wsL_told rmT G shH q 4 m h [.ref (q 0), .int 3, .int a1, .int a2, .int a3] ((f_h_hint m a1 a2).2) h (f_h_hint m a1 a2).1 1 6 := by
  intro sz
  refine g_metw (cc := cL_told) (maxL := 6) (ret := (some .int)) (own := RL) (hh := [(0, 9, 10, 79), (0, 9, 15, 81), (0, 9, 20, 83)]) (Qc := fun sz => gQpi G shH q 4 ((f_h_hint m a1 a2).2) h sz (f_h_hint m a1 a2).1) (by decide) rfl rfl (Nat.le_of_ble_eq_true rfl) (fun p e s m9 below meth c C hq hX htab hr => ?_)
  refine x_lv (lv' := [(0, .ref (q 0)), (1, .int 3), (2, .int a1), (3, .int a2), (4, .int a3)]) [0, 1, 2, 3, 4] rfl ?_
  refine x_aload_n C dL_told_0 rfl 0 rfl ?_
  refine x_iload_n C dL_told_1 rfl 1 rfl ?_
  refine x_iload_n C dL_told_2 rfl 2 rfl ?_
  refine x_iload_n C dL_told_3 rfl 3 rfl ?_
  refine x_iload C dL_told_4 4 rfl ?_
  refine x_callSpi (n := 5) (n4 := 4) C hq (cC_hint l G q m h a1 a2 a3 hok) (va_cwS 5 C.2.2.2.2.2.1 gL_told_L_call rfl rfl rfl (by decide +kernel) ⟨Nat.le_of_ble_eq_true rfl, Nat.le_of_ble_eq_true rfl⟩) rfl rfl (Nat.le_of_ble_eq_true rfl) dL_told_6 (Nat.zero_le _) (Nat.zero_le _) (fun q1 h4 hq1 => ?_)
  exact g_pzret C hq1 h4 hr rfl dL_told_9 rfl rfl rfl (Nat.zero_le _) (Nat.zero_le _)
set_option maxRecDepth 100000 in
set_option maxHeartbeats 4000000 in
theorem cC_collect (l : Launch) (G : gG) (q : Nat → Nat) (m : gM) (h : gN) (a1 a2 a3 : Int32) (hok : o_h_collect m a1) : gMpi l yL_call wsL_call rmC G shH q 4 m h [.ref (q 0), .int 4, .int a1, .int a2, .int a3] ((f_h_collect m a1).2) h (f_h_collect m a1).1 := by
  intro sz
  refine g_met (cc := cL_call) (maxL := 5) (ret := (some .int)) (own := RL) (Qc := fun sz => gQpi G shH q 4 ((f_h_collect m a1).2) h sz (f_h_collect m a1).1) (by decide) rfl rfl (Nat.le_of_ble_eq_true rfl) (fun p e s m9 below meth c C hq hr => ?_)
  refine x_lv (lv' := [(0, .ref (q 0)), (1, .int 4), (2, .int a1), (3, .int a2), (4, .int a3)]) [0, 1, 2, 3, 4] rfl ?_
  refine x_iload_n C dL_call_0 rfl 1 rfl ?_
  refine x_tin (v := (4 : Int32)) (tgt := 117) C dL_call_1 rfl (by decide) (by decide) rfl (by decide) ?_
  refine x_aload_n C dL_call_117 rfl 0 rfl ?_
  refine x_iload_n C dL_call_118 rfl 2 rfl ?_
  refine x_callVpi (n := 1) (n4 := 4) C hq (c_h_collect l G q m h a1 hok) (cwV 1 C.2.2.2.2.2.1 gL_call_X2_collect rfl rfl rfl (by decide +kernel) ⟨Nat.le_of_ble_eq_true rfl, Nat.le_of_ble_eq_true rfl⟩) rfl rfl rfl rfl (Nat.le_of_ble_eq_true rfl) dL_call_119 (Nat.zero_le _) (Nat.zero_le _) (fun q1 h4 hq1 => ?_)
  exact g_pret C hq1 h4 hr dL_call_122 rfl rfl rfl
set_option maxRecDepth 100000 in
set_option maxHeartbeats 4000000 in
theorem cT_collect (l : Launch) (G : gG) (q : Nat → Nat) (m : gM) (h : gN) (a1 a2 a3 : Int32) (hok : o_h_collect m a1) : gMz l yL_told wsL_told rmT G shH q 4 m h [.ref (q 0), .int 4, .int a1, .int a2, .int a3] ((f_h_collect m a1).2) h (f_h_collect m a1).1 1 6 := by
  intro sz
  refine g_metw (cc := cL_told) (maxL := 6) (ret := (some .int)) (own := RL) (hh := [(0, 9, 10, 79), (0, 9, 15, 81), (0, 9, 20, 83)]) (Qc := fun sz => gQpi G shH q 4 ((f_h_collect m a1).2) h sz (f_h_collect m a1).1) (by decide) rfl rfl (Nat.le_of_ble_eq_true rfl) (fun p e s m9 below meth c C hq hX htab hr => ?_)
  refine x_lv (lv' := [(0, .ref (q 0)), (1, .int 4), (2, .int a1), (3, .int a2), (4, .int a3)]) [0, 1, 2, 3, 4] rfl ?_
  refine x_aload_n C dL_told_0 rfl 0 rfl ?_
  refine x_iload_n C dL_told_1 rfl 1 rfl ?_
  refine x_iload_n C dL_told_2 rfl 2 rfl ?_
  refine x_iload_n C dL_told_3 rfl 3 rfl ?_
  refine x_iload C dL_told_4 4 rfl ?_
  refine x_callSpi (n := 5) (n4 := 4) C hq (cC_collect l G q m h a1 a2 a3 hok) (va_cwS 5 C.2.2.2.2.2.1 gL_told_L_call rfl rfl rfl (by decide +kernel) ⟨Nat.le_of_ble_eq_true rfl, Nat.le_of_ble_eq_true rfl⟩) rfl rfl (Nat.le_of_ble_eq_true rfl) dL_told_6 (Nat.zero_le _) (Nat.zero_le _) (fun q1 h4 hq1 => ?_)
  exact g_pzret C hq1 h4 hr rfl dL_told_9 rfl rfl rfl (Nat.zero_le _) (Nat.zero_le _)
set_option maxRecDepth 100000 in
set_option maxHeartbeats 4000000 in
theorem cC_tidy (l : Launch) (G : gG) (q : Nat → Nat) (m : gM) (h : gN) (a1 a2 a3 : Int32) (hok : o_h_tidy m a1) : gMpi l yL_call wsL_call rmC G shH q 4 m h [.ref (q 0), .int 5, .int a1, .int a2, .int a3] ((f_h_tidy m a1).2) h (f_h_tidy m a1).1 := by
  intro sz
  refine g_met (cc := cL_call) (maxL := 5) (ret := (some .int)) (own := RL) (Qc := fun sz => gQpi G shH q 4 ((f_h_tidy m a1).2) h sz (f_h_tidy m a1).1) (by decide) rfl rfl (Nat.le_of_ble_eq_true rfl) (fun p e s m9 below meth c C hq hr => ?_)
  refine x_lv (lv' := [(0, .ref (q 0)), (1, .int 5), (2, .int a1), (3, .int a2), (4, .int a3)]) [0, 1, 2, 3, 4] rfl ?_
  refine x_iload_n C dL_call_0 rfl 1 rfl ?_
  refine x_tin (v := (5 : Int32)) (tgt := 123) C dL_call_1 rfl (by decide) (by decide) rfl (by decide) ?_
  refine x_aload_n C dL_call_123 rfl 0 rfl ?_
  refine x_iload_n C dL_call_124 rfl 2 rfl ?_
  refine x_callVpi (n := 1) (n4 := 4) C hq (c_h_tidy l G q m h a1 hok) (cwV 1 C.2.2.2.2.2.1 gL_call_X2_tidy rfl rfl rfl (by decide +kernel) ⟨Nat.le_of_ble_eq_true rfl, Nat.le_of_ble_eq_true rfl⟩) rfl rfl rfl rfl (Nat.le_of_ble_eq_true rfl) dL_call_125 (Nat.zero_le _) (Nat.zero_le _) (fun q1 h4 hq1 => ?_)
  exact g_pret C hq1 h4 hr dL_call_128 rfl rfl rfl
set_option maxRecDepth 100000 in
set_option maxHeartbeats 4000000 in
theorem cT_tidy (l : Launch) (G : gG) (q : Nat → Nat) (m : gM) (h : gN) (a1 a2 a3 : Int32) (hok : o_h_tidy m a1) : gMz l yL_told wsL_told rmT G shH q 4 m h [.ref (q 0), .int 5, .int a1, .int a2, .int a3] ((f_h_tidy m a1).2) h (f_h_tidy m a1).1 1 6 := by
  intro sz
  refine g_metw (cc := cL_told) (maxL := 6) (ret := (some .int)) (own := RL) (hh := [(0, 9, 10, 79), (0, 9, 15, 81), (0, 9, 20, 83)]) (Qc := fun sz => gQpi G shH q 4 ((f_h_tidy m a1).2) h sz (f_h_tidy m a1).1) (by decide) rfl rfl (Nat.le_of_ble_eq_true rfl) (fun p e s m9 below meth c C hq hX htab hr => ?_)
  refine x_lv (lv' := [(0, .ref (q 0)), (1, .int 5), (2, .int a1), (3, .int a2), (4, .int a3)]) [0, 1, 2, 3, 4] rfl ?_
  refine x_aload_n C dL_told_0 rfl 0 rfl ?_
  refine x_iload_n C dL_told_1 rfl 1 rfl ?_
  refine x_iload_n C dL_told_2 rfl 2 rfl ?_
  refine x_iload_n C dL_told_3 rfl 3 rfl ?_
  refine x_iload C dL_told_4 4 rfl ?_
  refine x_callSpi (n := 5) (n4 := 4) C hq (cC_tidy l G q m h a1 a2 a3 hok) (va_cwS 5 C.2.2.2.2.2.1 gL_told_L_call rfl rfl rfl (by decide +kernel) ⟨Nat.le_of_ble_eq_true rfl, Nat.le_of_ble_eq_true rfl⟩) rfl rfl (Nat.le_of_ble_eq_true rfl) dL_told_6 (Nat.zero_le _) (Nat.zero_le _) (fun q1 h4 hq1 => ?_)
  exact g_pzret C hq1 h4 hr rfl dL_told_9 rfl rfl rfl (Nat.zero_le _) (Nat.zero_le _)
set_option maxRecDepth 100000 in
set_option maxHeartbeats 4000000 in
theorem cC_set (l : Launch) (G : gG) (q : Nat → Nat) (m : gM) (h : gN) (a1 a2 a3 : Int32) (hok : o_h_set m a1 a2) : gMpi l yL_call wsL_call rmC G shH q 4 m h [.ref (q 0), .int 6, .int a1, .int a2, .int a3] ((f_h_set m a1 a2).2) h (f_h_set m a1 a2).1 := by
  intro sz
  refine g_met (cc := cL_call) (maxL := 5) (ret := (some .int)) (own := RL) (Qc := fun sz => gQpi G shH q 4 ((f_h_set m a1 a2).2) h sz (f_h_set m a1 a2).1) (by decide) rfl rfl (Nat.le_of_ble_eq_true rfl) (fun p e s m9 below meth c C hq hr => ?_)
  refine x_lv (lv' := [(0, .ref (q 0)), (1, .int 6), (2, .int a1), (3, .int a2), (4, .int a3)]) [0, 1, 2, 3, 4] rfl ?_
  refine x_iload_n C dL_call_0 rfl 1 rfl ?_
  refine x_tin (v := (6 : Int32)) (tgt := 129) C dL_call_1 rfl (by decide) (by decide) rfl (by decide) ?_
  refine x_aload_n C dL_call_129 rfl 0 rfl ?_
  refine x_iload_n C dL_call_130 rfl 2 rfl ?_
  refine x_iload_n C dL_call_131 rfl 3 rfl ?_
  refine x_callVpi (n := 2) (n4 := 4) C hq (c_h_set l G q m h a1 a2 hok) (cwV 2 C.2.2.2.2.2.1 gL_call_X2_set rfl rfl rfl (by decide +kernel) ⟨Nat.le_of_ble_eq_true rfl, Nat.le_of_ble_eq_true rfl⟩) rfl rfl rfl rfl (Nat.le_of_ble_eq_true rfl) dL_call_132 (Nat.zero_le _) (Nat.zero_le _) (fun q1 h4 hq1 => ?_)
  exact g_pret C hq1 h4 hr dL_call_135 rfl rfl rfl
set_option maxRecDepth 100000 in
set_option maxHeartbeats 4000000 in
theorem cT_set (l : Launch) (G : gG) (q : Nat → Nat) (m : gM) (h : gN) (a1 a2 a3 : Int32) (hok : o_h_set m a1 a2) : gMz l yL_told wsL_told rmT G shH q 4 m h [.ref (q 0), .int 6, .int a1, .int a2, .int a3] ((f_h_set m a1 a2).2) h (f_h_set m a1 a2).1 1 6 := by
  intro sz
  refine g_metw (cc := cL_told) (maxL := 6) (ret := (some .int)) (own := RL) (hh := [(0, 9, 10, 79), (0, 9, 15, 81), (0, 9, 20, 83)]) (Qc := fun sz => gQpi G shH q 4 ((f_h_set m a1 a2).2) h sz (f_h_set m a1 a2).1) (by decide) rfl rfl (Nat.le_of_ble_eq_true rfl) (fun p e s m9 below meth c C hq hX htab hr => ?_)
  refine x_lv (lv' := [(0, .ref (q 0)), (1, .int 6), (2, .int a1), (3, .int a2), (4, .int a3)]) [0, 1, 2, 3, 4] rfl ?_
  refine x_aload_n C dL_told_0 rfl 0 rfl ?_
  refine x_iload_n C dL_told_1 rfl 1 rfl ?_
  refine x_iload_n C dL_told_2 rfl 2 rfl ?_
  refine x_iload_n C dL_told_3 rfl 3 rfl ?_
  refine x_iload C dL_told_4 4 rfl ?_
  refine x_callSpi (n := 5) (n4 := 4) C hq (cC_set l G q m h a1 a2 a3 hok) (va_cwS 5 C.2.2.2.2.2.1 gL_told_L_call rfl rfl rfl (by decide +kernel) ⟨Nat.le_of_ble_eq_true rfl, Nat.le_of_ble_eq_true rfl⟩) rfl rfl (Nat.le_of_ble_eq_true rfl) dL_told_6 (Nat.zero_le _) (Nat.zero_le _) (fun q1 h4 hq1 => ?_)
  exact g_pzret C hq1 h4 hr rfl dL_told_9 rfl rfl rfl (Nat.zero_le _) (Nat.zero_le _)
set_option maxRecDepth 100000 in
set_option maxHeartbeats 4000000 in
theorem cCx_write (l : Launch) (hl9 : l.stackTraces = false) (G : gG) (q : Nat → Nat) (m : gM) (h : gN) (a1 a2 a3 : Int32) (hok : ox_h_write m a1 a2) : gMx l yL_call wsL_call rmCx G shH q m h [.ref (q 0), .int 0, .int a1, .int a2, .int a3] (fx_h_write m a1 a2) (m) h := by
  intro sz
  refine g_metx (cc := cL_call) (maxL := 5) (ret := (some .int)) (own := RL) (by decide) rfl rfl (Nat.le_of_ble_eq_true rfl) (fun p e s m9 below meth c C hq hX htab => ?_)
  refine x_lv (lv' := [(0, .ref (q 0)), (1, .int 0), (2, .int a1), (3, .int a2), (4, .int a3)]) [0, 1, 2, 3, 4] rfl ?_
  refine x_iload_n C dL_call_0 rfl 1 rfl ?_
  refine x_tin (v := (0 : Int32)) (tgt := 88) C dL_call_1 rfl (by decide) (by decide) rfl (by decide) ?_
  refine x_aload_n C dL_call_88 rfl 0 rfl ?_
  refine x_iload_n C dL_call_89 rfl 2 rfl ?_
  refine x_iload_n C dL_call_90 rfl 3 rfl ?_
  exact x_thrV (n := 2) C hq hX htab (cx_h_write l hl9 G q m h a1 a2 hok) (cwV 2 C.2.2.2.2.2.1 gL_call_X2_write rfl rfl rfl (by decide +kernel) ⟨Nat.le_of_ble_eq_true rfl, Nat.le_of_ble_eq_true rfl⟩) rfl rfl rfl rfl (Nat.le_of_ble_eq_true rfl) dL_call_91 (Nat.le_refl _) (Nat.le_refl _)
set_option maxRecDepth 100000 in
set_option maxHeartbeats 4000000 in
theorem cT_write_IO (l : Launch) (hl9 : l.stackTraces = false) (G : gG) (q : Nat → Nat) (m : gM) (h : gN) (a1 a2 a3 : Int32) (hok : ox_h_write m a1 a2) (hE : (fx_h_write m a1 a2) = "java/lang/IndexOutOfBoundsException") : gMs l yL_told wsL_told rmT G shH q m h [.ref (q 0), .int 0, .int a1, .int a2, .int a3] (m) h (-11) 1 6 := by
  intro sz
  refine g_metw (cc := cL_told) (maxL := 6) (ret := (some .int)) (own := RL) (hh := [(0, 9, 10, 79), (0, 9, 15, 81), (0, 9, 20, 83)]) (Qc := fun sz => gQi G shH q (m) h sz (-11)) (by decide) rfl rfl (Nat.le_of_ble_eq_true rfl) (fun p e s m9 below meth c C hq hX htab hr => ?_)
  refine x_lv (lv' := [(0, .ref (q 0)), (1, .int 0), (2, .int a1), (3, .int a2), (4, .int a3)]) [0, 1, 2, 3, 4] rfl ?_
  refine x_aload_n C dL_told_0 rfl 0 rfl ?_
  refine x_iload_n C dL_told_1 rfl 1 rfl ?_
  refine x_iload_n C dL_told_2 rfl 2 rfl ?_
  refine x_iload_n C dL_told_3 rfl 3 rfl ?_
  refine x_iload C dL_told_4 4 rfl ?_
  refine x_catS (n := 5) (E := "java/lang/IndexOutOfBoundsException") C hq hX (hE ▸ cCx_write l hl9 G q m h a1 a2 a3 hok) (va_cwS 5 C.2.2.2.2.2.1 gL_told_L_call rfl rfl rfl (by decide +kernel) ⟨Nat.le_of_ble_eq_true rfl, Nat.le_of_ble_eq_true rfl⟩) rfl rfl (Nat.le_of_ble_eq_true rfl) dL_told_6 (Nat.le_refl _) (Nat.le_refl _) [] ⟨0, 9, 10, 79⟩ [⟨0, 9, 15, 81⟩, ⟨0, 9, 20, 83⟩] htab (fun z hz => absurd hz List.not_mem_nil) (by decide) (by decide) kt_IO (by decide +kernel) (hpc := 10) rfl (fun q9 => ?_)
  refine x_astore (lv' := [(5, .ref q9)]) C dL_told_10 (by decide) [0] rfl ?_
  refine x_bipush (v := (-11 : Int32)) C dL_told_12 (by decide) ?_
  exact g_sret C hr rfl dL_told_14 rfl rfl rfl (Nat.le_refl _) (Nat.le_refl _)
set_option maxRecDepth 100000 in
set_option maxHeartbeats 4000000 in
theorem cT_write_IA (l : Launch) (hl9 : l.stackTraces = false) (G : gG) (q : Nat → Nat) (m : gM) (h : gN) (a1 a2 a3 : Int32) (hok : ox_h_write m a1 a2) (hE : (fx_h_write m a1 a2) = "java/lang/IllegalArgumentException") : gMs l yL_told wsL_told rmT G shH q m h [.ref (q 0), .int 0, .int a1, .int a2, .int a3] (m) h (-12) 1 6 := by
  intro sz
  refine g_metw (cc := cL_told) (maxL := 6) (ret := (some .int)) (own := RL) (hh := [(0, 9, 10, 79), (0, 9, 15, 81), (0, 9, 20, 83)]) (Qc := fun sz => gQi G shH q (m) h sz (-12)) (by decide) rfl rfl (Nat.le_of_ble_eq_true rfl) (fun p e s m9 below meth c C hq hX htab hr => ?_)
  refine x_lv (lv' := [(0, .ref (q 0)), (1, .int 0), (2, .int a1), (3, .int a2), (4, .int a3)]) [0, 1, 2, 3, 4] rfl ?_
  refine x_aload_n C dL_told_0 rfl 0 rfl ?_
  refine x_iload_n C dL_told_1 rfl 1 rfl ?_
  refine x_iload_n C dL_told_2 rfl 2 rfl ?_
  refine x_iload_n C dL_told_3 rfl 3 rfl ?_
  refine x_iload C dL_told_4 4 rfl ?_
  refine x_catS (n := 5) (E := "java/lang/IllegalArgumentException") C hq hX (hE ▸ cCx_write l hl9 G q m h a1 a2 a3 hok) (va_cwS 5 C.2.2.2.2.2.1 gL_told_L_call rfl rfl rfl (by decide +kernel) ⟨Nat.le_of_ble_eq_true rfl, Nat.le_of_ble_eq_true rfl⟩) rfl rfl (Nat.le_of_ble_eq_true rfl) dL_told_6 (Nat.le_refl _) (Nat.le_refl _) [⟨0, 9, 10, 79⟩] ⟨0, 9, 15, 81⟩ [⟨0, 9, 20, 83⟩] htab (fun z hz => by simp only [List.mem_cons, List.not_mem_nil, or_false] at hz; rcases hz with rfl <;> first | (exact ⟨by decide, "java/lang/IndexOutOfBoundsException", kt_IO, by decide +kernel⟩; done)) (by decide) (by decide) kt_IA (by decide +kernel) (hpc := 15) rfl (fun q9 => ?_)
  refine x_astore (lv' := [(5, .ref q9)]) C dL_told_15 (by decide) [0] rfl ?_
  refine x_bipush (v := (-12 : Int32)) C dL_told_17 (by decide) ?_
  exact g_sret C hr rfl dL_told_19 rfl rfl rfl (Nat.le_refl _) (Nat.le_refl _)
set_option maxRecDepth 100000 in
set_option maxHeartbeats 4000000 in
theorem cCx_writeRow (l : Launch) (hl9 : l.stackTraces = false) (G : gG) (q : Nat → Nat) (m : gM) (h : gN) (a1 a2 a3 : Int32) (hok : ox_h_writeRow m a1 a2 a3) : gMx l yL_call wsL_call rmCx G shH q m h [.ref (q 0), .int 1, .int a1, .int a2, .int a3] (fx_h_writeRow m a1 a2 a3) (m) h := by
  intro sz
  refine g_metx (cc := cL_call) (maxL := 5) (ret := (some .int)) (own := RL) (by decide) rfl rfl (Nat.le_of_ble_eq_true rfl) (fun p e s m9 below meth c C hq hX htab => ?_)
  refine x_lv (lv' := [(0, .ref (q 0)), (1, .int 1), (2, .int a1), (3, .int a2), (4, .int a3)]) [0, 1, 2, 3, 4] rfl ?_
  refine x_iload_n C dL_call_0 rfl 1 rfl ?_
  refine x_tin (v := (1 : Int32)) (tgt := 95) C dL_call_1 rfl (by decide) (by decide) rfl (by decide) ?_
  refine x_aload_n C dL_call_95 rfl 0 rfl ?_
  refine x_iload_n C dL_call_96 rfl 2 rfl ?_
  refine x_iload_n C dL_call_97 rfl 3 rfl ?_
  refine x_iload C dL_call_98 4 rfl ?_
  exact x_thrV (n := 3) C hq hX htab (cx_h_writeRow l hl9 G q m h a1 a2 a3 hok) (cwV 3 C.2.2.2.2.2.1 gL_call_X2_writeRow rfl rfl rfl (by decide +kernel) ⟨Nat.le_of_ble_eq_true rfl, Nat.le_of_ble_eq_true rfl⟩) rfl rfl rfl rfl (Nat.le_of_ble_eq_true rfl) dL_call_100 (Nat.le_refl _) (Nat.le_refl _)
set_option maxRecDepth 100000 in
set_option maxHeartbeats 4000000 in
theorem cT_writeRow_IO (l : Launch) (hl9 : l.stackTraces = false) (G : gG) (q : Nat → Nat) (m : gM) (h : gN) (a1 a2 a3 : Int32) (hok : ox_h_writeRow m a1 a2 a3) (hE : (fx_h_writeRow m a1 a2 a3) = "java/lang/IndexOutOfBoundsException") : gMs l yL_told wsL_told rmT G shH q m h [.ref (q 0), .int 1, .int a1, .int a2, .int a3] (m) h (-11) 1 6 := by
  intro sz
  refine g_metw (cc := cL_told) (maxL := 6) (ret := (some .int)) (own := RL) (hh := [(0, 9, 10, 79), (0, 9, 15, 81), (0, 9, 20, 83)]) (Qc := fun sz => gQi G shH q (m) h sz (-11)) (by decide) rfl rfl (Nat.le_of_ble_eq_true rfl) (fun p e s m9 below meth c C hq hX htab hr => ?_)
  refine x_lv (lv' := [(0, .ref (q 0)), (1, .int 1), (2, .int a1), (3, .int a2), (4, .int a3)]) [0, 1, 2, 3, 4] rfl ?_
  refine x_aload_n C dL_told_0 rfl 0 rfl ?_
  refine x_iload_n C dL_told_1 rfl 1 rfl ?_
  refine x_iload_n C dL_told_2 rfl 2 rfl ?_
  refine x_iload_n C dL_told_3 rfl 3 rfl ?_
  refine x_iload C dL_told_4 4 rfl ?_
  refine x_catS (n := 5) (E := "java/lang/IndexOutOfBoundsException") C hq hX (hE ▸ cCx_writeRow l hl9 G q m h a1 a2 a3 hok) (va_cwS 5 C.2.2.2.2.2.1 gL_told_L_call rfl rfl rfl (by decide +kernel) ⟨Nat.le_of_ble_eq_true rfl, Nat.le_of_ble_eq_true rfl⟩) rfl rfl (Nat.le_of_ble_eq_true rfl) dL_told_6 (Nat.le_refl _) (Nat.le_refl _) [] ⟨0, 9, 10, 79⟩ [⟨0, 9, 15, 81⟩, ⟨0, 9, 20, 83⟩] htab (fun z hz => absurd hz List.not_mem_nil) (by decide) (by decide) kt_IO (by decide +kernel) (hpc := 10) rfl (fun q9 => ?_)
  refine x_astore (lv' := [(5, .ref q9)]) C dL_told_10 (by decide) [0] rfl ?_
  refine x_bipush (v := (-11 : Int32)) C dL_told_12 (by decide) ?_
  exact g_sret C hr rfl dL_told_14 rfl rfl rfl (Nat.le_refl _) (Nat.le_refl _)
set_option maxRecDepth 100000 in
set_option maxHeartbeats 4000000 in
theorem cT_writeRow_IA (l : Launch) (hl9 : l.stackTraces = false) (G : gG) (q : Nat → Nat) (m : gM) (h : gN) (a1 a2 a3 : Int32) (hok : ox_h_writeRow m a1 a2 a3) (hE : (fx_h_writeRow m a1 a2 a3) = "java/lang/IllegalArgumentException") : gMs l yL_told wsL_told rmT G shH q m h [.ref (q 0), .int 1, .int a1, .int a2, .int a3] (m) h (-12) 1 6 := by
  intro sz
  refine g_metw (cc := cL_told) (maxL := 6) (ret := (some .int)) (own := RL) (hh := [(0, 9, 10, 79), (0, 9, 15, 81), (0, 9, 20, 83)]) (Qc := fun sz => gQi G shH q (m) h sz (-12)) (by decide) rfl rfl (Nat.le_of_ble_eq_true rfl) (fun p e s m9 below meth c C hq hX htab hr => ?_)
  refine x_lv (lv' := [(0, .ref (q 0)), (1, .int 1), (2, .int a1), (3, .int a2), (4, .int a3)]) [0, 1, 2, 3, 4] rfl ?_
  refine x_aload_n C dL_told_0 rfl 0 rfl ?_
  refine x_iload_n C dL_told_1 rfl 1 rfl ?_
  refine x_iload_n C dL_told_2 rfl 2 rfl ?_
  refine x_iload_n C dL_told_3 rfl 3 rfl ?_
  refine x_iload C dL_told_4 4 rfl ?_
  refine x_catS (n := 5) (E := "java/lang/IllegalArgumentException") C hq hX (hE ▸ cCx_writeRow l hl9 G q m h a1 a2 a3 hok) (va_cwS 5 C.2.2.2.2.2.1 gL_told_L_call rfl rfl rfl (by decide +kernel) ⟨Nat.le_of_ble_eq_true rfl, Nat.le_of_ble_eq_true rfl⟩) rfl rfl (Nat.le_of_ble_eq_true rfl) dL_told_6 (Nat.le_refl _) (Nat.le_refl _) [⟨0, 9, 10, 79⟩] ⟨0, 9, 15, 81⟩ [⟨0, 9, 20, 83⟩] htab (fun z hz => by simp only [List.mem_cons, List.not_mem_nil, or_false] at hz; rcases hz with rfl <;> first | (exact ⟨by decide, "java/lang/IndexOutOfBoundsException", kt_IO, by decide +kernel⟩; done)) (by decide) (by decide) kt_IA (by decide +kernel) (hpc := 15) rfl (fun q9 => ?_)
  refine x_astore (lv' := [(5, .ref q9)]) C dL_told_15 (by decide) [0] rfl ?_
  refine x_bipush (v := (-12 : Int32)) C dL_told_17 (by decide) ?_
  exact g_sret C hr rfl dL_told_19 rfl rfl rfl (Nat.le_refl _) (Nat.le_refl _)
set_option maxRecDepth 100000 in
set_option maxHeartbeats 4000000 in
theorem cCx_trim (l : Launch) (hl9 : l.stackTraces = false) (G : gG) (q : Nat → Nat) (m : gM) (h : gN) (a1 a2 a3 : Int32) (hok : ox_h_trim m a1) : gMx l yL_call wsL_call rmCx G shH q m h [.ref (q 0), .int 2, .int a1, .int a2, .int a3] (fx_h_trim m a1) (m) h := by
  intro sz
  refine g_metx (cc := cL_call) (maxL := 5) (ret := (some .int)) (own := RL) (by decide) rfl rfl (Nat.le_of_ble_eq_true rfl) (fun p e s m9 below meth c C hq hX htab => ?_)
  refine x_lv (lv' := [(0, .ref (q 0)), (1, .int 2), (2, .int a1), (3, .int a2), (4, .int a3)]) [0, 1, 2, 3, 4] rfl ?_
  refine x_iload_n C dL_call_0 rfl 1 rfl ?_
  refine x_tin (v := (2 : Int32)) (tgt := 104) C dL_call_1 rfl (by decide) (by decide) rfl (by decide) ?_
  refine x_aload_n C dL_call_104 rfl 0 rfl ?_
  refine x_iload_n C dL_call_105 rfl 2 rfl ?_
  exact x_thrV (n := 1) C hq hX htab (cx_h_trim l hl9 G q m h a1 hok) (cwV 1 C.2.2.2.2.2.1 gL_call_X2_trim rfl rfl rfl (by decide +kernel) ⟨Nat.le_of_ble_eq_true rfl, Nat.le_of_ble_eq_true rfl⟩) rfl rfl rfl rfl (Nat.le_of_ble_eq_true rfl) dL_call_106 (Nat.le_refl _) (Nat.le_refl _)
set_option maxRecDepth 100000 in
set_option maxHeartbeats 4000000 in
theorem cT_trim_IO (l : Launch) (hl9 : l.stackTraces = false) (G : gG) (q : Nat → Nat) (m : gM) (h : gN) (a1 a2 a3 : Int32) (hok : ox_h_trim m a1) (hE : (fx_h_trim m a1) = "java/lang/IndexOutOfBoundsException") : gMs l yL_told wsL_told rmT G shH q m h [.ref (q 0), .int 2, .int a1, .int a2, .int a3] (m) h (-11) 1 6 := by
  intro sz
  refine g_metw (cc := cL_told) (maxL := 6) (ret := (some .int)) (own := RL) (hh := [(0, 9, 10, 79), (0, 9, 15, 81), (0, 9, 20, 83)]) (Qc := fun sz => gQi G shH q (m) h sz (-11)) (by decide) rfl rfl (Nat.le_of_ble_eq_true rfl) (fun p e s m9 below meth c C hq hX htab hr => ?_)
  refine x_lv (lv' := [(0, .ref (q 0)), (1, .int 2), (2, .int a1), (3, .int a2), (4, .int a3)]) [0, 1, 2, 3, 4] rfl ?_
  refine x_aload_n C dL_told_0 rfl 0 rfl ?_
  refine x_iload_n C dL_told_1 rfl 1 rfl ?_
  refine x_iload_n C dL_told_2 rfl 2 rfl ?_
  refine x_iload_n C dL_told_3 rfl 3 rfl ?_
  refine x_iload C dL_told_4 4 rfl ?_
  refine x_catS (n := 5) (E := "java/lang/IndexOutOfBoundsException") C hq hX (hE ▸ cCx_trim l hl9 G q m h a1 a2 a3 hok) (va_cwS 5 C.2.2.2.2.2.1 gL_told_L_call rfl rfl rfl (by decide +kernel) ⟨Nat.le_of_ble_eq_true rfl, Nat.le_of_ble_eq_true rfl⟩) rfl rfl (Nat.le_of_ble_eq_true rfl) dL_told_6 (Nat.le_refl _) (Nat.le_refl _) [] ⟨0, 9, 10, 79⟩ [⟨0, 9, 15, 81⟩, ⟨0, 9, 20, 83⟩] htab (fun z hz => absurd hz List.not_mem_nil) (by decide) (by decide) kt_IO (by decide +kernel) (hpc := 10) rfl (fun q9 => ?_)
  refine x_astore (lv' := [(5, .ref q9)]) C dL_told_10 (by decide) [0] rfl ?_
  refine x_bipush (v := (-11 : Int32)) C dL_told_12 (by decide) ?_
  exact g_sret C hr rfl dL_told_14 rfl rfl rfl (Nat.le_refl _) (Nat.le_refl _)
set_option maxRecDepth 100000 in
set_option maxHeartbeats 4000000 in
theorem cCx_hint (l : Launch) (hl9 : l.stackTraces = false) (G : gG) (q : Nat → Nat) (m : gM) (h : gN) (a1 a2 a3 : Int32) (hok : ox_h_hint m a1 a2) : gMx l yL_call wsL_call rmCx G shH q m h [.ref (q 0), .int 3, .int a1, .int a2, .int a3] (fx_h_hint m a1 a2) (m) h := by
  intro sz
  refine g_metx (cc := cL_call) (maxL := 5) (ret := (some .int)) (own := RL) (by decide) rfl rfl (Nat.le_of_ble_eq_true rfl) (fun p e s m9 below meth c C hq hX htab => ?_)
  refine x_lv (lv' := [(0, .ref (q 0)), (1, .int 3), (2, .int a1), (3, .int a2), (4, .int a3)]) [0, 1, 2, 3, 4] rfl ?_
  refine x_iload_n C dL_call_0 rfl 1 rfl ?_
  refine x_tin (v := (3 : Int32)) (tgt := 110) C dL_call_1 rfl (by decide) (by decide) rfl (by decide) ?_
  refine x_aload_n C dL_call_110 rfl 0 rfl ?_
  refine x_iload_n C dL_call_111 rfl 2 rfl ?_
  refine x_iload_n C dL_call_112 rfl 3 rfl ?_
  exact x_thrV (n := 2) C hq hX htab (cx_h_hint l hl9 G q m h a1 a2 hok) (cwV 2 C.2.2.2.2.2.1 gL_call_X2_hint rfl rfl rfl (by decide +kernel) ⟨Nat.le_of_ble_eq_true rfl, Nat.le_of_ble_eq_true rfl⟩) rfl rfl rfl rfl (Nat.le_of_ble_eq_true rfl) dL_call_113 (Nat.le_refl _) (Nat.le_refl _)
set_option maxRecDepth 100000 in
set_option maxHeartbeats 4000000 in
theorem cT_hint_IO (l : Launch) (hl9 : l.stackTraces = false) (G : gG) (q : Nat → Nat) (m : gM) (h : gN) (a1 a2 a3 : Int32) (hok : ox_h_hint m a1 a2) (hE : (fx_h_hint m a1 a2) = "java/lang/IndexOutOfBoundsException") : gMs l yL_told wsL_told rmT G shH q m h [.ref (q 0), .int 3, .int a1, .int a2, .int a3] (m) h (-11) 1 6 := by
  intro sz
  refine g_metw (cc := cL_told) (maxL := 6) (ret := (some .int)) (own := RL) (hh := [(0, 9, 10, 79), (0, 9, 15, 81), (0, 9, 20, 83)]) (Qc := fun sz => gQi G shH q (m) h sz (-11)) (by decide) rfl rfl (Nat.le_of_ble_eq_true rfl) (fun p e s m9 below meth c C hq hX htab hr => ?_)
  refine x_lv (lv' := [(0, .ref (q 0)), (1, .int 3), (2, .int a1), (3, .int a2), (4, .int a3)]) [0, 1, 2, 3, 4] rfl ?_
  refine x_aload_n C dL_told_0 rfl 0 rfl ?_
  refine x_iload_n C dL_told_1 rfl 1 rfl ?_
  refine x_iload_n C dL_told_2 rfl 2 rfl ?_
  refine x_iload_n C dL_told_3 rfl 3 rfl ?_
  refine x_iload C dL_told_4 4 rfl ?_
  refine x_catS (n := 5) (E := "java/lang/IndexOutOfBoundsException") C hq hX (hE ▸ cCx_hint l hl9 G q m h a1 a2 a3 hok) (va_cwS 5 C.2.2.2.2.2.1 gL_told_L_call rfl rfl rfl (by decide +kernel) ⟨Nat.le_of_ble_eq_true rfl, Nat.le_of_ble_eq_true rfl⟩) rfl rfl (Nat.le_of_ble_eq_true rfl) dL_told_6 (Nat.le_refl _) (Nat.le_refl _) [] ⟨0, 9, 10, 79⟩ [⟨0, 9, 15, 81⟩, ⟨0, 9, 20, 83⟩] htab (fun z hz => absurd hz List.not_mem_nil) (by decide) (by decide) kt_IO (by decide +kernel) (hpc := 10) rfl (fun q9 => ?_)
  refine x_astore (lv' := [(5, .ref q9)]) C dL_told_10 (by decide) [0] rfl ?_
  refine x_bipush (v := (-11 : Int32)) C dL_told_12 (by decide) ?_
  exact g_sret C hr rfl dL_told_14 rfl rfl rfl (Nat.le_refl _) (Nat.le_refl _)
set_option maxRecDepth 100000 in
set_option maxHeartbeats 4000000 in
theorem cT_hint_IA (l : Launch) (hl9 : l.stackTraces = false) (G : gG) (q : Nat → Nat) (m : gM) (h : gN) (a1 a2 a3 : Int32) (hok : ox_h_hint m a1 a2) (hE : (fx_h_hint m a1 a2) = "java/lang/IllegalArgumentException") : gMs l yL_told wsL_told rmT G shH q m h [.ref (q 0), .int 3, .int a1, .int a2, .int a3] (m) h (-12) 1 6 := by
  intro sz
  refine g_metw (cc := cL_told) (maxL := 6) (ret := (some .int)) (own := RL) (hh := [(0, 9, 10, 79), (0, 9, 15, 81), (0, 9, 20, 83)]) (Qc := fun sz => gQi G shH q (m) h sz (-12)) (by decide) rfl rfl (Nat.le_of_ble_eq_true rfl) (fun p e s m9 below meth c C hq hX htab hr => ?_)
  refine x_lv (lv' := [(0, .ref (q 0)), (1, .int 3), (2, .int a1), (3, .int a2), (4, .int a3)]) [0, 1, 2, 3, 4] rfl ?_
  refine x_aload_n C dL_told_0 rfl 0 rfl ?_
  refine x_iload_n C dL_told_1 rfl 1 rfl ?_
  refine x_iload_n C dL_told_2 rfl 2 rfl ?_
  refine x_iload_n C dL_told_3 rfl 3 rfl ?_
  refine x_iload C dL_told_4 4 rfl ?_
  refine x_catS (n := 5) (E := "java/lang/IllegalArgumentException") C hq hX (hE ▸ cCx_hint l hl9 G q m h a1 a2 a3 hok) (va_cwS 5 C.2.2.2.2.2.1 gL_told_L_call rfl rfl rfl (by decide +kernel) ⟨Nat.le_of_ble_eq_true rfl, Nat.le_of_ble_eq_true rfl⟩) rfl rfl (Nat.le_of_ble_eq_true rfl) dL_told_6 (Nat.le_refl _) (Nat.le_refl _) [⟨0, 9, 10, 79⟩] ⟨0, 9, 15, 81⟩ [⟨0, 9, 20, 83⟩] htab (fun z hz => by simp only [List.mem_cons, List.not_mem_nil, or_false] at hz; rcases hz with rfl <;> first | (exact ⟨by decide, "java/lang/IndexOutOfBoundsException", kt_IO, by decide +kernel⟩; done)) (by decide) (by decide) kt_IA (by decide +kernel) (hpc := 15) rfl (fun q9 => ?_)
  refine x_astore (lv' := [(5, .ref q9)]) C dL_told_15 (by decide) [0] rfl ?_
  refine x_bipush (v := (-12 : Int32)) C dL_told_17 (by decide) ?_
  exact g_sret C hr rfl dL_told_19 rfl rfl rfl (Nat.le_refl _) (Nat.le_refl _)
set_option maxRecDepth 100000 in
set_option maxHeartbeats 4000000 in
theorem cT_hint_IS (l : Launch) (hl9 : l.stackTraces = false) (G : gG) (q : Nat → Nat) (m : gM) (h : gN) (a1 a2 a3 : Int32) (hok : ox_h_hint m a1 a2) (hE : (fx_h_hint m a1 a2) = "java/lang/IllegalStateException") : gMs l yL_told wsL_told rmT G shH q m h [.ref (q 0), .int 3, .int a1, .int a2, .int a3] (m) h (-13) 1 6 := by
  intro sz
  refine g_metw (cc := cL_told) (maxL := 6) (ret := (some .int)) (own := RL) (hh := [(0, 9, 10, 79), (0, 9, 15, 81), (0, 9, 20, 83)]) (Qc := fun sz => gQi G shH q (m) h sz (-13)) (by decide) rfl rfl (Nat.le_of_ble_eq_true rfl) (fun p e s m9 below meth c C hq hX htab hr => ?_)
  refine x_lv (lv' := [(0, .ref (q 0)), (1, .int 3), (2, .int a1), (3, .int a2), (4, .int a3)]) [0, 1, 2, 3, 4] rfl ?_
  refine x_aload_n C dL_told_0 rfl 0 rfl ?_
  refine x_iload_n C dL_told_1 rfl 1 rfl ?_
  refine x_iload_n C dL_told_2 rfl 2 rfl ?_
  refine x_iload_n C dL_told_3 rfl 3 rfl ?_
  refine x_iload C dL_told_4 4 rfl ?_
  refine x_catS (n := 5) (E := "java/lang/IllegalStateException") C hq hX (hE ▸ cCx_hint l hl9 G q m h a1 a2 a3 hok) (va_cwS 5 C.2.2.2.2.2.1 gL_told_L_call rfl rfl rfl (by decide +kernel) ⟨Nat.le_of_ble_eq_true rfl, Nat.le_of_ble_eq_true rfl⟩) rfl rfl (Nat.le_of_ble_eq_true rfl) dL_told_6 (Nat.le_refl _) (Nat.le_refl _) [⟨0, 9, 10, 79⟩, ⟨0, 9, 15, 81⟩] ⟨0, 9, 20, 83⟩ [] htab (fun z hz => by simp only [List.mem_cons, List.not_mem_nil, or_false] at hz; rcases hz with rfl | rfl <;> first | (exact ⟨by decide, "java/lang/IndexOutOfBoundsException", kt_IO, by decide +kernel⟩; done) | (exact ⟨by decide, "java/lang/IllegalArgumentException", kt_IA, by decide +kernel⟩; done)) (by decide) (by decide) kt_IS (by decide +kernel) (hpc := 20) rfl (fun q9 => ?_)
  refine x_astore (lv' := [(5, .ref q9)]) C dL_told_20 (by decide) [0] rfl ?_
  refine x_bipush (v := (-13 : Int32)) C dL_told_22 (by decide) ?_
  exact g_sret C hr rfl dL_told_24 rfl rfl rfl (Nat.le_refl _) (Nat.le_refl _)
set_option maxRecDepth 100000 in
set_option maxHeartbeats 4000000 in
theorem cCx_collect (l : Launch) (hl9 : l.stackTraces = false) (G : gG) (q : Nat → Nat) (m : gM) (h : gN) (a1 a2 a3 : Int32) (hok : ox_h_collect m a1) : gMx l yL_call wsL_call rmCx G shH q m h [.ref (q 0), .int 4, .int a1, .int a2, .int a3] (fx_h_collect m a1) (m) h := by
  intro sz
  refine g_metx (cc := cL_call) (maxL := 5) (ret := (some .int)) (own := RL) (by decide) rfl rfl (Nat.le_of_ble_eq_true rfl) (fun p e s m9 below meth c C hq hX htab => ?_)
  refine x_lv (lv' := [(0, .ref (q 0)), (1, .int 4), (2, .int a1), (3, .int a2), (4, .int a3)]) [0, 1, 2, 3, 4] rfl ?_
  refine x_iload_n C dL_call_0 rfl 1 rfl ?_
  refine x_tin (v := (4 : Int32)) (tgt := 117) C dL_call_1 rfl (by decide) (by decide) rfl (by decide) ?_
  refine x_aload_n C dL_call_117 rfl 0 rfl ?_
  refine x_iload_n C dL_call_118 rfl 2 rfl ?_
  exact x_thrV (n := 1) C hq hX htab (cx_h_collect l hl9 G q m h a1 hok) (cwV 1 C.2.2.2.2.2.1 gL_call_X2_collect rfl rfl rfl (by decide +kernel) ⟨Nat.le_of_ble_eq_true rfl, Nat.le_of_ble_eq_true rfl⟩) rfl rfl rfl rfl (Nat.le_of_ble_eq_true rfl) dL_call_119 (Nat.le_refl _) (Nat.le_refl _)
set_option maxRecDepth 100000 in
set_option maxHeartbeats 4000000 in
theorem cT_collect_IO (l : Launch) (hl9 : l.stackTraces = false) (G : gG) (q : Nat → Nat) (m : gM) (h : gN) (a1 a2 a3 : Int32) (hok : ox_h_collect m a1) (hE : (fx_h_collect m a1) = "java/lang/IndexOutOfBoundsException") : gMs l yL_told wsL_told rmT G shH q m h [.ref (q 0), .int 4, .int a1, .int a2, .int a3] (m) h (-11) 1 6 := by
  intro sz
  refine g_metw (cc := cL_told) (maxL := 6) (ret := (some .int)) (own := RL) (hh := [(0, 9, 10, 79), (0, 9, 15, 81), (0, 9, 20, 83)]) (Qc := fun sz => gQi G shH q (m) h sz (-11)) (by decide) rfl rfl (Nat.le_of_ble_eq_true rfl) (fun p e s m9 below meth c C hq hX htab hr => ?_)
  refine x_lv (lv' := [(0, .ref (q 0)), (1, .int 4), (2, .int a1), (3, .int a2), (4, .int a3)]) [0, 1, 2, 3, 4] rfl ?_
  refine x_aload_n C dL_told_0 rfl 0 rfl ?_
  refine x_iload_n C dL_told_1 rfl 1 rfl ?_
  refine x_iload_n C dL_told_2 rfl 2 rfl ?_
  refine x_iload_n C dL_told_3 rfl 3 rfl ?_
  refine x_iload C dL_told_4 4 rfl ?_
  refine x_catS (n := 5) (E := "java/lang/IndexOutOfBoundsException") C hq hX (hE ▸ cCx_collect l hl9 G q m h a1 a2 a3 hok) (va_cwS 5 C.2.2.2.2.2.1 gL_told_L_call rfl rfl rfl (by decide +kernel) ⟨Nat.le_of_ble_eq_true rfl, Nat.le_of_ble_eq_true rfl⟩) rfl rfl (Nat.le_of_ble_eq_true rfl) dL_told_6 (Nat.le_refl _) (Nat.le_refl _) [] ⟨0, 9, 10, 79⟩ [⟨0, 9, 15, 81⟩, ⟨0, 9, 20, 83⟩] htab (fun z hz => absurd hz List.not_mem_nil) (by decide) (by decide) kt_IO (by decide +kernel) (hpc := 10) rfl (fun q9 => ?_)
  refine x_astore (lv' := [(5, .ref q9)]) C dL_told_10 (by decide) [0] rfl ?_
  refine x_bipush (v := (-11 : Int32)) C dL_told_12 (by decide) ?_
  exact g_sret C hr rfl dL_told_14 rfl rfl rfl (Nat.le_refl _) (Nat.le_refl _)
set_option maxRecDepth 100000 in
set_option maxHeartbeats 4000000 in
theorem cT_collect_IS (l : Launch) (hl9 : l.stackTraces = false) (G : gG) (q : Nat → Nat) (m : gM) (h : gN) (a1 a2 a3 : Int32) (hok : ox_h_collect m a1) (hE : (fx_h_collect m a1) = "java/lang/IllegalStateException") : gMs l yL_told wsL_told rmT G shH q m h [.ref (q 0), .int 4, .int a1, .int a2, .int a3] (m) h (-13) 1 6 := by
  intro sz
  refine g_metw (cc := cL_told) (maxL := 6) (ret := (some .int)) (own := RL) (hh := [(0, 9, 10, 79), (0, 9, 15, 81), (0, 9, 20, 83)]) (Qc := fun sz => gQi G shH q (m) h sz (-13)) (by decide) rfl rfl (Nat.le_of_ble_eq_true rfl) (fun p e s m9 below meth c C hq hX htab hr => ?_)
  refine x_lv (lv' := [(0, .ref (q 0)), (1, .int 4), (2, .int a1), (3, .int a2), (4, .int a3)]) [0, 1, 2, 3, 4] rfl ?_
  refine x_aload_n C dL_told_0 rfl 0 rfl ?_
  refine x_iload_n C dL_told_1 rfl 1 rfl ?_
  refine x_iload_n C dL_told_2 rfl 2 rfl ?_
  refine x_iload_n C dL_told_3 rfl 3 rfl ?_
  refine x_iload C dL_told_4 4 rfl ?_
  refine x_catS (n := 5) (E := "java/lang/IllegalStateException") C hq hX (hE ▸ cCx_collect l hl9 G q m h a1 a2 a3 hok) (va_cwS 5 C.2.2.2.2.2.1 gL_told_L_call rfl rfl rfl (by decide +kernel) ⟨Nat.le_of_ble_eq_true rfl, Nat.le_of_ble_eq_true rfl⟩) rfl rfl (Nat.le_of_ble_eq_true rfl) dL_told_6 (Nat.le_refl _) (Nat.le_refl _) [⟨0, 9, 10, 79⟩, ⟨0, 9, 15, 81⟩] ⟨0, 9, 20, 83⟩ [] htab (fun z hz => by simp only [List.mem_cons, List.not_mem_nil, or_false] at hz; rcases hz with rfl | rfl <;> first | (exact ⟨by decide, "java/lang/IndexOutOfBoundsException", kt_IO, by decide +kernel⟩; done) | (exact ⟨by decide, "java/lang/IllegalArgumentException", kt_IA, by decide +kernel⟩; done)) (by decide) (by decide) kt_IS (by decide +kernel) (hpc := 20) rfl (fun q9 => ?_)
  refine x_astore (lv' := [(5, .ref q9)]) C dL_told_20 (by decide) [0] rfl ?_
  refine x_bipush (v := (-13 : Int32)) C dL_told_22 (by decide) ?_
  exact g_sret C hr rfl dL_told_24 rfl rfl rfl (Nat.le_refl _) (Nat.le_refl _)
set_option maxRecDepth 100000 in
set_option maxHeartbeats 4000000 in
theorem cCx_tidy (l : Launch) (hl9 : l.stackTraces = false) (G : gG) (q : Nat → Nat) (m : gM) (h : gN) (a1 a2 a3 : Int32) (hok : ox_h_tidy m a1) : gMx l yL_call wsL_call rmCx G shH q m h [.ref (q 0), .int 5, .int a1, .int a2, .int a3] (fx_h_tidy m a1) (m) h := by
  intro sz
  refine g_metx (cc := cL_call) (maxL := 5) (ret := (some .int)) (own := RL) (by decide) rfl rfl (Nat.le_of_ble_eq_true rfl) (fun p e s m9 below meth c C hq hX htab => ?_)
  refine x_lv (lv' := [(0, .ref (q 0)), (1, .int 5), (2, .int a1), (3, .int a2), (4, .int a3)]) [0, 1, 2, 3, 4] rfl ?_
  refine x_iload_n C dL_call_0 rfl 1 rfl ?_
  refine x_tin (v := (5 : Int32)) (tgt := 123) C dL_call_1 rfl (by decide) (by decide) rfl (by decide) ?_
  refine x_aload_n C dL_call_123 rfl 0 rfl ?_
  refine x_iload_n C dL_call_124 rfl 2 rfl ?_
  exact x_thrV (n := 1) C hq hX htab (cx_h_tidy l hl9 G q m h a1 hok) (cwV 1 C.2.2.2.2.2.1 gL_call_X2_tidy rfl rfl rfl (by decide +kernel) ⟨Nat.le_of_ble_eq_true rfl, Nat.le_of_ble_eq_true rfl⟩) rfl rfl rfl rfl (Nat.le_of_ble_eq_true rfl) dL_call_125 (Nat.le_refl _) (Nat.le_refl _)
set_option maxRecDepth 100000 in
set_option maxHeartbeats 4000000 in
theorem cT_tidy_IA (l : Launch) (hl9 : l.stackTraces = false) (G : gG) (q : Nat → Nat) (m : gM) (h : gN) (a1 a2 a3 : Int32) (hok : ox_h_tidy m a1) (hE : (fx_h_tidy m a1) = "java/lang/IllegalArgumentException") : gMs l yL_told wsL_told rmT G shH q m h [.ref (q 0), .int 5, .int a1, .int a2, .int a3] (m) h (-12) 1 6 := by
  intro sz
  refine g_metw (cc := cL_told) (maxL := 6) (ret := (some .int)) (own := RL) (hh := [(0, 9, 10, 79), (0, 9, 15, 81), (0, 9, 20, 83)]) (Qc := fun sz => gQi G shH q (m) h sz (-12)) (by decide) rfl rfl (Nat.le_of_ble_eq_true rfl) (fun p e s m9 below meth c C hq hX htab hr => ?_)
  refine x_lv (lv' := [(0, .ref (q 0)), (1, .int 5), (2, .int a1), (3, .int a2), (4, .int a3)]) [0, 1, 2, 3, 4] rfl ?_
  refine x_aload_n C dL_told_0 rfl 0 rfl ?_
  refine x_iload_n C dL_told_1 rfl 1 rfl ?_
  refine x_iload_n C dL_told_2 rfl 2 rfl ?_
  refine x_iload_n C dL_told_3 rfl 3 rfl ?_
  refine x_iload C dL_told_4 4 rfl ?_
  refine x_catS (n := 5) (E := "java/lang/IllegalArgumentException") C hq hX (hE ▸ cCx_tidy l hl9 G q m h a1 a2 a3 hok) (va_cwS 5 C.2.2.2.2.2.1 gL_told_L_call rfl rfl rfl (by decide +kernel) ⟨Nat.le_of_ble_eq_true rfl, Nat.le_of_ble_eq_true rfl⟩) rfl rfl (Nat.le_of_ble_eq_true rfl) dL_told_6 (Nat.le_refl _) (Nat.le_refl _) [⟨0, 9, 10, 79⟩] ⟨0, 9, 15, 81⟩ [⟨0, 9, 20, 83⟩] htab (fun z hz => by simp only [List.mem_cons, List.not_mem_nil, or_false] at hz; rcases hz with rfl <;> first | (exact ⟨by decide, "java/lang/IndexOutOfBoundsException", kt_IO, by decide +kernel⟩; done)) (by decide) (by decide) kt_IA (by decide +kernel) (hpc := 15) rfl (fun q9 => ?_)
  refine x_astore (lv' := [(5, .ref q9)]) C dL_told_15 (by decide) [0] rfl ?_
  refine x_bipush (v := (-12 : Int32)) C dL_told_17 (by decide) ?_
  exact g_sret C hr rfl dL_told_19 rfl rfl rfl (Nat.le_refl _) (Nat.le_refl _)
set_option maxRecDepth 100000 in
set_option maxHeartbeats 4000000 in
theorem cCx_set (l : Launch) (hl9 : l.stackTraces = false) (G : gG) (q : Nat → Nat) (m : gM) (h : gN) (a1 a2 a3 : Int32) (hok : ox_h_set m a1 a2) : gMx l yL_call wsL_call rmCx G shH q m h [.ref (q 0), .int 6, .int a1, .int a2, .int a3] (fx_h_set m a1 a2) (m) h := by
  intro sz
  refine g_metx (cc := cL_call) (maxL := 5) (ret := (some .int)) (own := RL) (by decide) rfl rfl (Nat.le_of_ble_eq_true rfl) (fun p e s m9 below meth c C hq hX htab => ?_)
  refine x_lv (lv' := [(0, .ref (q 0)), (1, .int 6), (2, .int a1), (3, .int a2), (4, .int a3)]) [0, 1, 2, 3, 4] rfl ?_
  refine x_iload_n C dL_call_0 rfl 1 rfl ?_
  refine x_tin (v := (6 : Int32)) (tgt := 129) C dL_call_1 rfl (by decide) (by decide) rfl (by decide) ?_
  refine x_aload_n C dL_call_129 rfl 0 rfl ?_
  refine x_iload_n C dL_call_130 rfl 2 rfl ?_
  refine x_iload_n C dL_call_131 rfl 3 rfl ?_
  exact x_thrV (n := 2) C hq hX htab (cx_h_set l hl9 G q m h a1 a2 hok) (cwV 2 C.2.2.2.2.2.1 gL_call_X2_set rfl rfl rfl (by decide +kernel) ⟨Nat.le_of_ble_eq_true rfl, Nat.le_of_ble_eq_true rfl⟩) rfl rfl rfl rfl (Nat.le_of_ble_eq_true rfl) dL_call_132 (Nat.le_refl _) (Nat.le_refl _)
set_option maxRecDepth 100000 in
set_option maxHeartbeats 4000000 in
theorem cT_set_IO (l : Launch) (hl9 : l.stackTraces = false) (G : gG) (q : Nat → Nat) (m : gM) (h : gN) (a1 a2 a3 : Int32) (hok : ox_h_set m a1 a2) (hE : (fx_h_set m a1 a2) = "java/lang/IndexOutOfBoundsException") : gMs l yL_told wsL_told rmT G shH q m h [.ref (q 0), .int 6, .int a1, .int a2, .int a3] (m) h (-11) 1 6 := by
  intro sz
  refine g_metw (cc := cL_told) (maxL := 6) (ret := (some .int)) (own := RL) (hh := [(0, 9, 10, 79), (0, 9, 15, 81), (0, 9, 20, 83)]) (Qc := fun sz => gQi G shH q (m) h sz (-11)) (by decide) rfl rfl (Nat.le_of_ble_eq_true rfl) (fun p e s m9 below meth c C hq hX htab hr => ?_)
  refine x_lv (lv' := [(0, .ref (q 0)), (1, .int 6), (2, .int a1), (3, .int a2), (4, .int a3)]) [0, 1, 2, 3, 4] rfl ?_
  refine x_aload_n C dL_told_0 rfl 0 rfl ?_
  refine x_iload_n C dL_told_1 rfl 1 rfl ?_
  refine x_iload_n C dL_told_2 rfl 2 rfl ?_
  refine x_iload_n C dL_told_3 rfl 3 rfl ?_
  refine x_iload C dL_told_4 4 rfl ?_
  refine x_catS (n := 5) (E := "java/lang/IndexOutOfBoundsException") C hq hX (hE ▸ cCx_set l hl9 G q m h a1 a2 a3 hok) (va_cwS 5 C.2.2.2.2.2.1 gL_told_L_call rfl rfl rfl (by decide +kernel) ⟨Nat.le_of_ble_eq_true rfl, Nat.le_of_ble_eq_true rfl⟩) rfl rfl (Nat.le_of_ble_eq_true rfl) dL_told_6 (Nat.le_refl _) (Nat.le_refl _) [] ⟨0, 9, 10, 79⟩ [⟨0, 9, 15, 81⟩, ⟨0, 9, 20, 83⟩] htab (fun z hz => absurd hz List.not_mem_nil) (by decide) (by decide) kt_IO (by decide +kernel) (hpc := 10) rfl (fun q9 => ?_)
  refine x_astore (lv' := [(5, .ref q9)]) C dL_told_10 (by decide) [0] rfl ?_
  refine x_bipush (v := (-11 : Int32)) C dL_told_12 (by decide) ?_
  exact g_sret C hr rfl dL_told_14 rfl rfl rfl (Nat.le_refl _) (Nat.le_refl _)
set_option maxRecDepth 100000 in
set_option maxHeartbeats 4000000 in
theorem cT_set_IA (l : Launch) (hl9 : l.stackTraces = false) (G : gG) (q : Nat → Nat) (m : gM) (h : gN) (a1 a2 a3 : Int32) (hok : ox_h_set m a1 a2) (hE : (fx_h_set m a1 a2) = "java/lang/IllegalArgumentException") : gMs l yL_told wsL_told rmT G shH q m h [.ref (q 0), .int 6, .int a1, .int a2, .int a3] (m) h (-12) 1 6 := by
  intro sz
  refine g_metw (cc := cL_told) (maxL := 6) (ret := (some .int)) (own := RL) (hh := [(0, 9, 10, 79), (0, 9, 15, 81), (0, 9, 20, 83)]) (Qc := fun sz => gQi G shH q (m) h sz (-12)) (by decide) rfl rfl (Nat.le_of_ble_eq_true rfl) (fun p e s m9 below meth c C hq hX htab hr => ?_)
  refine x_lv (lv' := [(0, .ref (q 0)), (1, .int 6), (2, .int a1), (3, .int a2), (4, .int a3)]) [0, 1, 2, 3, 4] rfl ?_
  refine x_aload_n C dL_told_0 rfl 0 rfl ?_
  refine x_iload_n C dL_told_1 rfl 1 rfl ?_
  refine x_iload_n C dL_told_2 rfl 2 rfl ?_
  refine x_iload_n C dL_told_3 rfl 3 rfl ?_
  refine x_iload C dL_told_4 4 rfl ?_
  refine x_catS (n := 5) (E := "java/lang/IllegalArgumentException") C hq hX (hE ▸ cCx_set l hl9 G q m h a1 a2 a3 hok) (va_cwS 5 C.2.2.2.2.2.1 gL_told_L_call rfl rfl rfl (by decide +kernel) ⟨Nat.le_of_ble_eq_true rfl, Nat.le_of_ble_eq_true rfl⟩) rfl rfl (Nat.le_of_ble_eq_true rfl) dL_told_6 (Nat.le_refl _) (Nat.le_refl _) [⟨0, 9, 10, 79⟩] ⟨0, 9, 15, 81⟩ [⟨0, 9, 20, 83⟩] htab (fun z hz => by simp only [List.mem_cons, List.not_mem_nil, or_false] at hz; rcases hz with rfl <;> first | (exact ⟨by decide, "java/lang/IndexOutOfBoundsException", kt_IO, by decide +kernel⟩; done)) (by decide) (by decide) kt_IA (by decide +kernel) (hpc := 15) rfl (fun q9 => ?_)
  refine x_astore (lv' := [(5, .ref q9)]) C dL_told_15 (by decide) [0] rfl ?_
  refine x_bipush (v := (-12 : Int32)) C dL_told_17 (by decide) ?_
  exact g_sret C hr rfl dL_told_19 rfl rfl rfl (Nat.le_refl _) (Nat.le_refl _)
set_option maxRecDepth 100000 in
set_option maxHeartbeats 4000000 in
theorem cCx_append (l : Launch) (hl9 : l.stackTraces = false) (G : gG) (q : Nat → Nat) (m : gM) (h : gN) (a1 a2 a3 : Int32) (hok : ox_h_append m a1) : gMx l yL_call wsL_call rmCx G shH q m h [.ref (q 0), .int 7, .int a1, .int a2, .int a3] (fx_h_append m a1) (m) h := by
  intro sz
  refine g_metx (cc := cL_call) (maxL := 5) (ret := (some .int)) (own := RL) (by decide) rfl rfl (Nat.le_of_ble_eq_true rfl) (fun p e s m9 below meth c C hq hX htab => ?_)
  refine x_lv (lv' := [(0, .ref (q 0)), (1, .int 7), (2, .int a1), (3, .int a2), (4, .int a3)]) [0, 1, 2, 3, 4] rfl ?_
  refine x_iload_n C dL_call_0 rfl 1 rfl ?_
  refine x_tin (v := (7 : Int32)) (tgt := 136) C dL_call_1 rfl (by decide) (by decide) rfl (by decide) ?_
  refine x_aload_n C dL_call_136 rfl 0 rfl ?_
  refine x_iload_n C dL_call_137 rfl 2 rfl ?_
  exact x_thrV (n := 1) C hq hX htab (cx_h_append l hl9 G q m h a1 hok) (cwV 1 C.2.2.2.2.2.1 gL_call_X2_append rfl rfl rfl (by decide +kernel) ⟨Nat.le_of_ble_eq_true rfl, Nat.le_of_ble_eq_true rfl⟩) rfl rfl rfl rfl (Nat.le_of_ble_eq_true rfl) dL_call_138 (Nat.le_refl _) (Nat.le_refl _)
set_option maxRecDepth 100000 in
set_option maxHeartbeats 4000000 in
theorem cT_append_IA (l : Launch) (hl9 : l.stackTraces = false) (G : gG) (q : Nat → Nat) (m : gM) (h : gN) (a1 a2 a3 : Int32) (hok : ox_h_append m a1) (hE : (fx_h_append m a1) = "java/lang/IllegalArgumentException") : gMs l yL_told wsL_told rmT G shH q m h [.ref (q 0), .int 7, .int a1, .int a2, .int a3] (m) h (-12) 1 6 := by
  intro sz
  refine g_metw (cc := cL_told) (maxL := 6) (ret := (some .int)) (own := RL) (hh := [(0, 9, 10, 79), (0, 9, 15, 81), (0, 9, 20, 83)]) (Qc := fun sz => gQi G shH q (m) h sz (-12)) (by decide) rfl rfl (Nat.le_of_ble_eq_true rfl) (fun p e s m9 below meth c C hq hX htab hr => ?_)
  refine x_lv (lv' := [(0, .ref (q 0)), (1, .int 7), (2, .int a1), (3, .int a2), (4, .int a3)]) [0, 1, 2, 3, 4] rfl ?_
  refine x_aload_n C dL_told_0 rfl 0 rfl ?_
  refine x_iload_n C dL_told_1 rfl 1 rfl ?_
  refine x_iload_n C dL_told_2 rfl 2 rfl ?_
  refine x_iload_n C dL_told_3 rfl 3 rfl ?_
  refine x_iload C dL_told_4 4 rfl ?_
  refine x_catS (n := 5) (E := "java/lang/IllegalArgumentException") C hq hX (hE ▸ cCx_append l hl9 G q m h a1 a2 a3 hok) (va_cwS 5 C.2.2.2.2.2.1 gL_told_L_call rfl rfl rfl (by decide +kernel) ⟨Nat.le_of_ble_eq_true rfl, Nat.le_of_ble_eq_true rfl⟩) rfl rfl (Nat.le_of_ble_eq_true rfl) dL_told_6 (Nat.le_refl _) (Nat.le_refl _) [⟨0, 9, 10, 79⟩] ⟨0, 9, 15, 81⟩ [⟨0, 9, 20, 83⟩] htab (fun z hz => by simp only [List.mem_cons, List.not_mem_nil, or_false] at hz; rcases hz with rfl <;> first | (exact ⟨by decide, "java/lang/IndexOutOfBoundsException", kt_IO, by decide +kernel⟩; done)) (by decide) (by decide) kt_IA (by decide +kernel) (hpc := 15) rfl (fun q9 => ?_)
  refine x_astore (lv' := [(5, .ref q9)]) C dL_told_15 (by decide) [0] rfl ?_
  refine x_bipush (v := (-12 : Int32)) C dL_told_17 (by decide) ?_
  exact g_sret C hr rfl dL_told_19 rfl rfl rfl (Nat.le_refl _) (Nat.le_refl _)
set_option maxRecDepth 100000 in
set_option maxHeartbeats 4000000 in
theorem cT_append_IS (l : Launch) (hl9 : l.stackTraces = false) (G : gG) (q : Nat → Nat) (m : gM) (h : gN) (a1 a2 a3 : Int32) (hok : ox_h_append m a1) (hE : (fx_h_append m a1) = "java/lang/IllegalStateException") : gMs l yL_told wsL_told rmT G shH q m h [.ref (q 0), .int 7, .int a1, .int a2, .int a3] (m) h (-13) 1 6 := by
  intro sz
  refine g_metw (cc := cL_told) (maxL := 6) (ret := (some .int)) (own := RL) (hh := [(0, 9, 10, 79), (0, 9, 15, 81), (0, 9, 20, 83)]) (Qc := fun sz => gQi G shH q (m) h sz (-13)) (by decide) rfl rfl (Nat.le_of_ble_eq_true rfl) (fun p e s m9 below meth c C hq hX htab hr => ?_)
  refine x_lv (lv' := [(0, .ref (q 0)), (1, .int 7), (2, .int a1), (3, .int a2), (4, .int a3)]) [0, 1, 2, 3, 4] rfl ?_
  refine x_aload_n C dL_told_0 rfl 0 rfl ?_
  refine x_iload_n C dL_told_1 rfl 1 rfl ?_
  refine x_iload_n C dL_told_2 rfl 2 rfl ?_
  refine x_iload_n C dL_told_3 rfl 3 rfl ?_
  refine x_iload C dL_told_4 4 rfl ?_
  refine x_catS (n := 5) (E := "java/lang/IllegalStateException") C hq hX (hE ▸ cCx_append l hl9 G q m h a1 a2 a3 hok) (va_cwS 5 C.2.2.2.2.2.1 gL_told_L_call rfl rfl rfl (by decide +kernel) ⟨Nat.le_of_ble_eq_true rfl, Nat.le_of_ble_eq_true rfl⟩) rfl rfl (Nat.le_of_ble_eq_true rfl) dL_told_6 (Nat.le_refl _) (Nat.le_refl _) [⟨0, 9, 10, 79⟩, ⟨0, 9, 15, 81⟩] ⟨0, 9, 20, 83⟩ [] htab (fun z hz => by simp only [List.mem_cons, List.not_mem_nil, or_false] at hz; rcases hz with rfl | rfl <;> first | (exact ⟨by decide, "java/lang/IndexOutOfBoundsException", kt_IO, by decide +kernel⟩; done) | (exact ⟨by decide, "java/lang/IllegalArgumentException", kt_IA, by decide +kernel⟩; done)) (by decide) (by decide) kt_IS (by decide +kernel) (hpc := 20) rfl (fun q9 => ?_)
  refine x_astore (lv' := [(5, .ref q9)]) C dL_told_20 (by decide) [0] rfl ?_
  refine x_bipush (v := (-13 : Int32)) C dL_told_22 (by decide) ?_
  exact g_sret C hr rfl dL_told_24 rfl rfl rfl (Nat.le_refl _) (Nat.le_refl _)
set_option maxRecDepth 100000 in
set_option maxHeartbeats 4000000 in
theorem cCx_writeAll (l : Launch) (hl9 : l.stackTraces = false) (G : gG) (q : Nat → Nat) (m : gM) (h : gN) (a1 a2 a3 : Int32) (hok : ox_h_writeAll m) : gMx l yL_call wsL_call rmCx G shH q m h [.ref (q 0), .int 8, .int a1, .int a2, .int a3] (fx_h_writeAll m).1 ((fx_h_writeAll m).2) h := by
  intro sz
  refine g_metx (cc := cL_call) (maxL := 5) (ret := (some .int)) (own := RL) (by decide) rfl rfl (Nat.le_of_ble_eq_true rfl) (fun p e s m9 below meth c C hq hX htab => ?_)
  refine x_lv (lv' := [(0, .ref (q 0)), (1, .int 8), (2, .int a1), (3, .int a2), (4, .int a3)]) [0, 1, 2, 3, 4] rfl ?_
  refine x_iload_n C dL_call_0 rfl 1 rfl ?_
  refine x_tin (v := (8 : Int32)) (tgt := 142) C dL_call_1 rfl (by decide) (by decide) rfl (by decide) ?_
  refine x_aload_n C dL_call_142 rfl 0 rfl ?_
  exact x_thrV (n := 0) C hq hX htab (cx_h_writeAll l hl9 G q m h hok) (cwV 0 C.2.2.2.2.2.1 gL_call_X2_writeAll rfl rfl rfl (by decide +kernel) ⟨Nat.le_of_ble_eq_true rfl, Nat.le_of_ble_eq_true rfl⟩) rfl rfl rfl rfl (Nat.le_of_ble_eq_true rfl) dL_call_143 (Nat.le_refl _) (Nat.le_refl _)
set_option maxRecDepth 100000 in
set_option maxHeartbeats 4000000 in
theorem cT_writeAll_IA (l : Launch) (hl9 : l.stackTraces = false) (G : gG) (q : Nat → Nat) (m : gM) (h : gN) (a1 a2 a3 : Int32) (hok : ox_h_writeAll m) (hE : (fx_h_writeAll m).1 = "java/lang/IllegalArgumentException") : gMs l yL_told wsL_told rmT G shH q m h [.ref (q 0), .int 8, .int a1, .int a2, .int a3] ((fx_h_writeAll m).2) h (-12) 1 6 := by
  intro sz
  refine g_metw (cc := cL_told) (maxL := 6) (ret := (some .int)) (own := RL) (hh := [(0, 9, 10, 79), (0, 9, 15, 81), (0, 9, 20, 83)]) (Qc := fun sz => gQi G shH q ((fx_h_writeAll m).2) h sz (-12)) (by decide) rfl rfl (Nat.le_of_ble_eq_true rfl) (fun p e s m9 below meth c C hq hX htab hr => ?_)
  refine x_lv (lv' := [(0, .ref (q 0)), (1, .int 8), (2, .int a1), (3, .int a2), (4, .int a3)]) [0, 1, 2, 3, 4] rfl ?_
  refine x_aload_n C dL_told_0 rfl 0 rfl ?_
  refine x_iload_n C dL_told_1 rfl 1 rfl ?_
  refine x_iload_n C dL_told_2 rfl 2 rfl ?_
  refine x_iload_n C dL_told_3 rfl 3 rfl ?_
  refine x_iload C dL_told_4 4 rfl ?_
  refine x_catS (n := 5) (E := "java/lang/IllegalArgumentException") C hq hX (hE ▸ cCx_writeAll l hl9 G q m h a1 a2 a3 hok) (va_cwS 5 C.2.2.2.2.2.1 gL_told_L_call rfl rfl rfl (by decide +kernel) ⟨Nat.le_of_ble_eq_true rfl, Nat.le_of_ble_eq_true rfl⟩) rfl rfl (Nat.le_of_ble_eq_true rfl) dL_told_6 (Nat.le_refl _) (Nat.le_refl _) [⟨0, 9, 10, 79⟩] ⟨0, 9, 15, 81⟩ [⟨0, 9, 20, 83⟩] htab (fun z hz => by simp only [List.mem_cons, List.not_mem_nil, or_false] at hz; rcases hz with rfl <;> first | (exact ⟨by decide, "java/lang/IndexOutOfBoundsException", kt_IO, by decide +kernel⟩; done)) (by decide) (by decide) kt_IA (by decide +kernel) (hpc := 15) rfl (fun q9 => ?_)
  refine x_astore (lv' := [(5, .ref q9)]) C dL_told_15 (by decide) [0] rfl ?_
  refine x_bipush (v := (-12 : Int32)) C dL_told_17 (by decide) ?_
  exact g_sret C hr rfl dL_told_19 rfl rfl rfl (Nat.le_refl _) (Nat.le_refl _)
set_option maxRecDepth 100000 in
set_option maxHeartbeats 4000000 in
theorem cCx_undo (l : Launch) (hl9 : l.stackTraces = false) (G : gG) (q : Nat → Nat) (m : gM) (h : gN) (a1 a2 a3 : Int32) (hok : ox_h_undo m) : gMx l yL_call wsL_call rmCx G shH q m h [.ref (q 0), .int 9, .int a1, .int a2, .int a3] (fx_h_undo m) (m) h := by
  intro sz
  refine g_metx (cc := cL_call) (maxL := 5) (ret := (some .int)) (own := RL) (by decide) rfl rfl (Nat.le_of_ble_eq_true rfl) (fun p e s m9 below meth c C hq hX htab => ?_)
  refine x_lv (lv' := [(0, .ref (q 0)), (1, .int 9), (2, .int a1), (3, .int a2), (4, .int a3)]) [0, 1, 2, 3, 4] rfl ?_
  refine x_iload_n C dL_call_0 rfl 1 rfl ?_
  refine x_tin (v := (9 : Int32)) (tgt := 147) C dL_call_1 rfl (by decide) (by decide) rfl (by decide) ?_
  refine x_aload_n C dL_call_147 rfl 0 rfl ?_
  exact x_thrV (n := 0) C hq hX htab (cx_h_undo l hl9 G q m h hok) (cwV 0 C.2.2.2.2.2.1 gL_call_X2_undo rfl rfl rfl (by decide +kernel) ⟨Nat.le_of_ble_eq_true rfl, Nat.le_of_ble_eq_true rfl⟩) rfl rfl rfl rfl (Nat.le_of_ble_eq_true rfl) dL_call_148 (Nat.le_refl _) (Nat.le_refl _)
set_option maxRecDepth 100000 in
set_option maxHeartbeats 4000000 in
theorem cT_undo_IS (l : Launch) (hl9 : l.stackTraces = false) (G : gG) (q : Nat → Nat) (m : gM) (h : gN) (a1 a2 a3 : Int32) (hok : ox_h_undo m) (hE : (fx_h_undo m) = "java/lang/IllegalStateException") : gMs l yL_told wsL_told rmT G shH q m h [.ref (q 0), .int 9, .int a1, .int a2, .int a3] (m) h (-13) 1 6 := by
  intro sz
  refine g_metw (cc := cL_told) (maxL := 6) (ret := (some .int)) (own := RL) (hh := [(0, 9, 10, 79), (0, 9, 15, 81), (0, 9, 20, 83)]) (Qc := fun sz => gQi G shH q (m) h sz (-13)) (by decide) rfl rfl (Nat.le_of_ble_eq_true rfl) (fun p e s m9 below meth c C hq hX htab hr => ?_)
  refine x_lv (lv' := [(0, .ref (q 0)), (1, .int 9), (2, .int a1), (3, .int a2), (4, .int a3)]) [0, 1, 2, 3, 4] rfl ?_
  refine x_aload_n C dL_told_0 rfl 0 rfl ?_
  refine x_iload_n C dL_told_1 rfl 1 rfl ?_
  refine x_iload_n C dL_told_2 rfl 2 rfl ?_
  refine x_iload_n C dL_told_3 rfl 3 rfl ?_
  refine x_iload C dL_told_4 4 rfl ?_
  refine x_catS (n := 5) (E := "java/lang/IllegalStateException") C hq hX (hE ▸ cCx_undo l hl9 G q m h a1 a2 a3 hok) (va_cwS 5 C.2.2.2.2.2.1 gL_told_L_call rfl rfl rfl (by decide +kernel) ⟨Nat.le_of_ble_eq_true rfl, Nat.le_of_ble_eq_true rfl⟩) rfl rfl (Nat.le_of_ble_eq_true rfl) dL_told_6 (Nat.le_refl _) (Nat.le_refl _) [⟨0, 9, 10, 79⟩, ⟨0, 9, 15, 81⟩] ⟨0, 9, 20, 83⟩ [] htab (fun z hz => by simp only [List.mem_cons, List.not_mem_nil, or_false] at hz; rcases hz with rfl | rfl <;> first | (exact ⟨by decide, "java/lang/IndexOutOfBoundsException", kt_IO, by decide +kernel⟩; done) | (exact ⟨by decide, "java/lang/IllegalArgumentException", kt_IA, by decide +kernel⟩; done)) (by decide) (by decide) kt_IS (by decide +kernel) (hpc := 20) rfl (fun q9 => ?_)
  refine x_astore (lv' := [(5, .ref q9)]) C dL_told_20 (by decide) [0] rfl ?_
  refine x_bipush (v := (-13 : Int32)) C dL_told_22 (by decide) ?_
  exact g_sret C hr rfl dL_told_24 rfl rfl rfl (Nat.le_refl _) (Nat.le_refl _)
set_option maxRecDepth 100000 in
set_option maxHeartbeats 4000000 in
theorem cCx_page (l : Launch) (hl9 : l.stackTraces = false) (G : gG) (q : Nat → Nat) (m : gM) (h : gN) (a1 a2 a3 : Int32) (hok : ox_h_page m a1 a2) : gMx l yL_call wsL_call rmCx G shH q m h [.ref (q 0), .int 10, .int a1, .int a2, .int a3] (fx_h_page m a1 a2) (m) h := by
  intro sz
  refine g_metx (cc := cL_call) (maxL := 5) (ret := (some .int)) (own := RL) (by decide) rfl rfl (Nat.le_of_ble_eq_true rfl) (fun p e s m9 below meth c C hq hX htab => ?_)
  refine x_lv (lv' := [(0, .ref (q 0)), (1, .int 10), (2, .int a1), (3, .int a2), (4, .int a3)]) [0, 1, 2, 3, 4] rfl ?_
  refine x_iload_n C dL_call_0 rfl 1 rfl ?_
  refine x_tin (v := (10 : Int32)) (tgt := 152) C dL_call_1 rfl (by decide) (by decide) rfl (by decide) ?_
  refine x_aload_n C dL_call_152 rfl 0 rfl ?_
  refine x_iload_n C dL_call_153 rfl 2 rfl ?_
  refine x_iload_n C dL_call_154 rfl 3 rfl ?_
  exact x_thrV (n := 2) C hq hX htab (cx_h_page l hl9 G q m h a1 a2 hok) (cwV 2 C.2.2.2.2.2.1 gL_call_X2_page rfl rfl rfl (by decide +kernel) ⟨Nat.le_of_ble_eq_true rfl, Nat.le_of_ble_eq_true rfl⟩) rfl rfl rfl rfl (Nat.le_of_ble_eq_true rfl) dL_call_155 (Nat.le_refl _) (Nat.le_refl _)
set_option maxRecDepth 100000 in
set_option maxHeartbeats 4000000 in
theorem cT_page_IO (l : Launch) (hl9 : l.stackTraces = false) (G : gG) (q : Nat → Nat) (m : gM) (h : gN) (a1 a2 a3 : Int32) (hok : ox_h_page m a1 a2) (hE : (fx_h_page m a1 a2) = "java/lang/IndexOutOfBoundsException") : gMs l yL_told wsL_told rmT G shH q m h [.ref (q 0), .int 10, .int a1, .int a2, .int a3] (m) h (-11) 1 6 := by
  intro sz
  refine g_metw (cc := cL_told) (maxL := 6) (ret := (some .int)) (own := RL) (hh := [(0, 9, 10, 79), (0, 9, 15, 81), (0, 9, 20, 83)]) (Qc := fun sz => gQi G shH q (m) h sz (-11)) (by decide) rfl rfl (Nat.le_of_ble_eq_true rfl) (fun p e s m9 below meth c C hq hX htab hr => ?_)
  refine x_lv (lv' := [(0, .ref (q 0)), (1, .int 10), (2, .int a1), (3, .int a2), (4, .int a3)]) [0, 1, 2, 3, 4] rfl ?_
  refine x_aload_n C dL_told_0 rfl 0 rfl ?_
  refine x_iload_n C dL_told_1 rfl 1 rfl ?_
  refine x_iload_n C dL_told_2 rfl 2 rfl ?_
  refine x_iload_n C dL_told_3 rfl 3 rfl ?_
  refine x_iload C dL_told_4 4 rfl ?_
  refine x_catS (n := 5) (E := "java/lang/IndexOutOfBoundsException") C hq hX (hE ▸ cCx_page l hl9 G q m h a1 a2 a3 hok) (va_cwS 5 C.2.2.2.2.2.1 gL_told_L_call rfl rfl rfl (by decide +kernel) ⟨Nat.le_of_ble_eq_true rfl, Nat.le_of_ble_eq_true rfl⟩) rfl rfl (Nat.le_of_ble_eq_true rfl) dL_told_6 (Nat.le_refl _) (Nat.le_refl _) [] ⟨0, 9, 10, 79⟩ [⟨0, 9, 15, 81⟩, ⟨0, 9, 20, 83⟩] htab (fun z hz => absurd hz List.not_mem_nil) (by decide) (by decide) kt_IO (by decide +kernel) (hpc := 10) rfl (fun q9 => ?_)
  refine x_astore (lv' := [(5, .ref q9)]) C dL_told_10 (by decide) [0] rfl ?_
  refine x_bipush (v := (-11 : Int32)) C dL_told_12 (by decide) ?_
  exact g_sret C hr rfl dL_told_14 rfl rfl rfl (Nat.le_refl _) (Nat.le_refl _)
set_option maxRecDepth 100000 in
set_option maxHeartbeats 4000000 in
theorem cT_page_IA (l : Launch) (hl9 : l.stackTraces = false) (G : gG) (q : Nat → Nat) (m : gM) (h : gN) (a1 a2 a3 : Int32) (hok : ox_h_page m a1 a2) (hE : (fx_h_page m a1 a2) = "java/lang/IllegalArgumentException") : gMs l yL_told wsL_told rmT G shH q m h [.ref (q 0), .int 10, .int a1, .int a2, .int a3] (m) h (-12) 1 6 := by
  intro sz
  refine g_metw (cc := cL_told) (maxL := 6) (ret := (some .int)) (own := RL) (hh := [(0, 9, 10, 79), (0, 9, 15, 81), (0, 9, 20, 83)]) (Qc := fun sz => gQi G shH q (m) h sz (-12)) (by decide) rfl rfl (Nat.le_of_ble_eq_true rfl) (fun p e s m9 below meth c C hq hX htab hr => ?_)
  refine x_lv (lv' := [(0, .ref (q 0)), (1, .int 10), (2, .int a1), (3, .int a2), (4, .int a3)]) [0, 1, 2, 3, 4] rfl ?_
  refine x_aload_n C dL_told_0 rfl 0 rfl ?_
  refine x_iload_n C dL_told_1 rfl 1 rfl ?_
  refine x_iload_n C dL_told_2 rfl 2 rfl ?_
  refine x_iload_n C dL_told_3 rfl 3 rfl ?_
  refine x_iload C dL_told_4 4 rfl ?_
  refine x_catS (n := 5) (E := "java/lang/IllegalArgumentException") C hq hX (hE ▸ cCx_page l hl9 G q m h a1 a2 a3 hok) (va_cwS 5 C.2.2.2.2.2.1 gL_told_L_call rfl rfl rfl (by decide +kernel) ⟨Nat.le_of_ble_eq_true rfl, Nat.le_of_ble_eq_true rfl⟩) rfl rfl (Nat.le_of_ble_eq_true rfl) dL_told_6 (Nat.le_refl _) (Nat.le_refl _) [⟨0, 9, 10, 79⟩] ⟨0, 9, 15, 81⟩ [⟨0, 9, 20, 83⟩] htab (fun z hz => by simp only [List.mem_cons, List.not_mem_nil, or_false] at hz; rcases hz with rfl <;> first | (exact ⟨by decide, "java/lang/IndexOutOfBoundsException", kt_IO, by decide +kernel⟩; done)) (by decide) (by decide) kt_IA (by decide +kernel) (hpc := 15) rfl (fun q9 => ?_)
  refine x_astore (lv' := [(5, .ref q9)]) C dL_told_15 (by decide) [0] rfl ?_
  refine x_bipush (v := (-12 : Int32)) C dL_told_17 (by decide) ?_
  exact g_sret C hr rfl dL_told_19 rfl rfl rfl (Nat.le_refl _) (Nat.le_refl _)
set_option maxRecDepth 100000 in
set_option maxHeartbeats 4000000 in
theorem cCx_block (l : Launch) (hl9 : l.stackTraces = false) (G : gG) (q : Nat → Nat) (m : gM) (h : gN) (a1 a2 a3 : Int32) (hok : ox_h_block m a1 a2) : gMx l yL_call wsL_call rmCx G shH q m h [.ref (q 0), .int 11, .int a1, .int a2, .int a3] (fx_h_block m a1 a2) (m) h := by
  intro sz
  refine g_metx (cc := cL_call) (maxL := 5) (ret := (some .int)) (own := RL) (by decide) rfl rfl (Nat.le_of_ble_eq_true rfl) (fun p e s m9 below meth c C hq hX htab => ?_)
  refine x_lv (lv' := [(0, .ref (q 0)), (1, .int 11), (2, .int a1), (3, .int a2), (4, .int a3)]) [0, 1, 2, 3, 4] rfl ?_
  refine x_iload_n C dL_call_0 rfl 1 rfl ?_
  refine x_tin (v := (11 : Int32)) (tgt := 159) C dL_call_1 rfl (by decide) (by decide) rfl (by decide) ?_
  refine x_aload_n C dL_call_159 rfl 0 rfl ?_
  refine x_iload_n C dL_call_160 rfl 2 rfl ?_
  refine x_iload_n C dL_call_161 rfl 3 rfl ?_
  exact x_thrV (n := 2) C hq hX htab (cx_h_block l hl9 G q m h a1 a2 hok) (cwV 2 C.2.2.2.2.2.1 gL_call_X2_block rfl rfl rfl (by decide +kernel) ⟨Nat.le_of_ble_eq_true rfl, Nat.le_of_ble_eq_true rfl⟩) rfl rfl rfl rfl (Nat.le_of_ble_eq_true rfl) dL_call_162 (Nat.le_refl _) (Nat.le_refl _)
set_option maxRecDepth 100000 in
set_option maxHeartbeats 4000000 in
theorem cT_block_IO (l : Launch) (hl9 : l.stackTraces = false) (G : gG) (q : Nat → Nat) (m : gM) (h : gN) (a1 a2 a3 : Int32) (hok : ox_h_block m a1 a2) (hE : (fx_h_block m a1 a2) = "java/lang/IndexOutOfBoundsException") : gMs l yL_told wsL_told rmT G shH q m h [.ref (q 0), .int 11, .int a1, .int a2, .int a3] (m) h (-11) 1 6 := by
  intro sz
  refine g_metw (cc := cL_told) (maxL := 6) (ret := (some .int)) (own := RL) (hh := [(0, 9, 10, 79), (0, 9, 15, 81), (0, 9, 20, 83)]) (Qc := fun sz => gQi G shH q (m) h sz (-11)) (by decide) rfl rfl (Nat.le_of_ble_eq_true rfl) (fun p e s m9 below meth c C hq hX htab hr => ?_)
  refine x_lv (lv' := [(0, .ref (q 0)), (1, .int 11), (2, .int a1), (3, .int a2), (4, .int a3)]) [0, 1, 2, 3, 4] rfl ?_
  refine x_aload_n C dL_told_0 rfl 0 rfl ?_
  refine x_iload_n C dL_told_1 rfl 1 rfl ?_
  refine x_iload_n C dL_told_2 rfl 2 rfl ?_
  refine x_iload_n C dL_told_3 rfl 3 rfl ?_
  refine x_iload C dL_told_4 4 rfl ?_
  refine x_catS (n := 5) (E := "java/lang/IndexOutOfBoundsException") C hq hX (hE ▸ cCx_block l hl9 G q m h a1 a2 a3 hok) (va_cwS 5 C.2.2.2.2.2.1 gL_told_L_call rfl rfl rfl (by decide +kernel) ⟨Nat.le_of_ble_eq_true rfl, Nat.le_of_ble_eq_true rfl⟩) rfl rfl (Nat.le_of_ble_eq_true rfl) dL_told_6 (Nat.le_refl _) (Nat.le_refl _) [] ⟨0, 9, 10, 79⟩ [⟨0, 9, 15, 81⟩, ⟨0, 9, 20, 83⟩] htab (fun z hz => absurd hz List.not_mem_nil) (by decide) (by decide) kt_IO (by decide +kernel) (hpc := 10) rfl (fun q9 => ?_)
  refine x_astore (lv' := [(5, .ref q9)]) C dL_told_10 (by decide) [0] rfl ?_
  refine x_bipush (v := (-11 : Int32)) C dL_told_12 (by decide) ?_
  exact g_sret C hr rfl dL_told_14 rfl rfl rfl (Nat.le_refl _) (Nat.le_refl _)
set_option maxRecDepth 100000 in
set_option maxHeartbeats 4000000 in
theorem cT_block_IA (l : Launch) (hl9 : l.stackTraces = false) (G : gG) (q : Nat → Nat) (m : gM) (h : gN) (a1 a2 a3 : Int32) (hok : ox_h_block m a1 a2) (hE : (fx_h_block m a1 a2) = "java/lang/IllegalArgumentException") : gMs l yL_told wsL_told rmT G shH q m h [.ref (q 0), .int 11, .int a1, .int a2, .int a3] (m) h (-12) 1 6 := by
  intro sz
  refine g_metw (cc := cL_told) (maxL := 6) (ret := (some .int)) (own := RL) (hh := [(0, 9, 10, 79), (0, 9, 15, 81), (0, 9, 20, 83)]) (Qc := fun sz => gQi G shH q (m) h sz (-12)) (by decide) rfl rfl (Nat.le_of_ble_eq_true rfl) (fun p e s m9 below meth c C hq hX htab hr => ?_)
  refine x_lv (lv' := [(0, .ref (q 0)), (1, .int 11), (2, .int a1), (3, .int a2), (4, .int a3)]) [0, 1, 2, 3, 4] rfl ?_
  refine x_aload_n C dL_told_0 rfl 0 rfl ?_
  refine x_iload_n C dL_told_1 rfl 1 rfl ?_
  refine x_iload_n C dL_told_2 rfl 2 rfl ?_
  refine x_iload_n C dL_told_3 rfl 3 rfl ?_
  refine x_iload C dL_told_4 4 rfl ?_
  refine x_catS (n := 5) (E := "java/lang/IllegalArgumentException") C hq hX (hE ▸ cCx_block l hl9 G q m h a1 a2 a3 hok) (va_cwS 5 C.2.2.2.2.2.1 gL_told_L_call rfl rfl rfl (by decide +kernel) ⟨Nat.le_of_ble_eq_true rfl, Nat.le_of_ble_eq_true rfl⟩) rfl rfl (Nat.le_of_ble_eq_true rfl) dL_told_6 (Nat.le_refl _) (Nat.le_refl _) [⟨0, 9, 10, 79⟩] ⟨0, 9, 15, 81⟩ [⟨0, 9, 20, 83⟩] htab (fun z hz => by simp only [List.mem_cons, List.not_mem_nil, or_false] at hz; rcases hz with rfl <;> first | (exact ⟨by decide, "java/lang/IndexOutOfBoundsException", kt_IO, by decide +kernel⟩; done)) (by decide) (by decide) kt_IA (by decide +kernel) (hpc := 15) rfl (fun q9 => ?_)
  refine x_astore (lv' := [(5, .ref q9)]) C dL_told_15 (by decide) [0] rfl ?_
  refine x_bipush (v := (-12 : Int32)) C dL_told_17 (by decide) ?_
  exact g_sret C hr rfl dL_told_19 rfl rfl rfl (Nat.le_refl _) (Nat.le_refl _)
set_option maxRecDepth 100000 in
set_option maxHeartbeats 4000000 in
theorem cCx_slot0 (l : Launch) (hl9 : l.stackTraces = false) (G : gG) (q : Nat → Nat) (m : gM) (h : gN) (a1 a2 a3 : Int32) (hok : ox_h_slot m a1 a2 (0 : Int32)) : gMx l yL_call wsL_call rmCx G shH q m h [.ref (q 0), .int 12, .int a1, .int a2, .int (0 : Int32)] (fx_h_slot m a1 a2 (0 : Int32)) (m) h := by
  intro sz
  refine g_metx (cc := cL_call) (maxL := 5) (ret := (some .int)) (own := RL) (by decide) rfl rfl (Nat.le_of_ble_eq_true rfl) (fun p e s m9 below meth c C hq hX htab => ?_)
  refine x_lv (lv' := [(0, .ref (q 0)), (1, .int 12), (2, .int a1), (3, .int a2), (4, .int (0 : Int32))]) [0, 1, 2, 3, 4] rfl ?_
  refine x_iload_n C dL_call_0 rfl 1 rfl ?_
  refine x_tin (v := (12 : Int32)) (tgt := 166) C dL_call_1 rfl (by decide) (by decide) rfl (by decide) ?_
  refine x_aload_n C dL_call_166 rfl 0 rfl ?_
  refine x_iload_n C dL_call_167 rfl 2 rfl ?_
  refine x_iload_n C dL_call_168 rfl 3 rfl ?_
  refine x_iload C dL_call_169 4 rfl ?_
  refine x_if_le (tgt := 178) C dL_call_171 (by decide) (fun _ => ?_) (fun c9 => absurd c9 (by decide))
  refine x_iconst (v := (0 : Int32)) C dL_call_178 (by decide) ?_
  exact x_thrV (n := 3) C hq hX htab (cx_h_slot l hl9 G q m h a1 a2 (0 : Int32) hok) (cwV 3 C.2.2.2.2.2.1 gL_call_X2_slot rfl rfl rfl (by decide +kernel) ⟨Nat.le_of_ble_eq_true rfl, Nat.le_of_ble_eq_true rfl⟩) rfl rfl rfl rfl (Nat.le_of_ble_eq_true rfl) dL_call_179 (Nat.le_refl _) (Nat.le_refl _)
set_option maxRecDepth 100000 in
set_option maxHeartbeats 4000000 in
theorem cT_slot0_IO (l : Launch) (hl9 : l.stackTraces = false) (G : gG) (q : Nat → Nat) (m : gM) (h : gN) (a1 a2 a3 : Int32) (hok : ox_h_slot m a1 a2 (0 : Int32)) (hE : (fx_h_slot m a1 a2 (0 : Int32)) = "java/lang/IndexOutOfBoundsException") : gMs l yL_told wsL_told rmT G shH q m h [.ref (q 0), .int 12, .int a1, .int a2, .int (0 : Int32)] (m) h (-11) 1 6 := by
  intro sz
  refine g_metw (cc := cL_told) (maxL := 6) (ret := (some .int)) (own := RL) (hh := [(0, 9, 10, 79), (0, 9, 15, 81), (0, 9, 20, 83)]) (Qc := fun sz => gQi G shH q (m) h sz (-11)) (by decide) rfl rfl (Nat.le_of_ble_eq_true rfl) (fun p e s m9 below meth c C hq hX htab hr => ?_)
  refine x_lv (lv' := [(0, .ref (q 0)), (1, .int 12), (2, .int a1), (3, .int a2), (4, .int (0 : Int32))]) [0, 1, 2, 3, 4] rfl ?_
  refine x_aload_n C dL_told_0 rfl 0 rfl ?_
  refine x_iload_n C dL_told_1 rfl 1 rfl ?_
  refine x_iload_n C dL_told_2 rfl 2 rfl ?_
  refine x_iload_n C dL_told_3 rfl 3 rfl ?_
  refine x_iload C dL_told_4 4 rfl ?_
  refine x_catS (n := 5) (E := "java/lang/IndexOutOfBoundsException") C hq hX (hE ▸ cCx_slot0 l hl9 G q m h a1 a2 a3 hok) (va_cwS 5 C.2.2.2.2.2.1 gL_told_L_call rfl rfl rfl (by decide +kernel) ⟨Nat.le_of_ble_eq_true rfl, Nat.le_of_ble_eq_true rfl⟩) rfl rfl (Nat.le_of_ble_eq_true rfl) dL_told_6 (Nat.le_refl _) (Nat.le_refl _) [] ⟨0, 9, 10, 79⟩ [⟨0, 9, 15, 81⟩, ⟨0, 9, 20, 83⟩] htab (fun z hz => absurd hz List.not_mem_nil) (by decide) (by decide) kt_IO (by decide +kernel) (hpc := 10) rfl (fun q9 => ?_)
  refine x_astore (lv' := [(5, .ref q9)]) C dL_told_10 (by decide) [0] rfl ?_
  refine x_bipush (v := (-11 : Int32)) C dL_told_12 (by decide) ?_
  exact g_sret C hr rfl dL_told_14 rfl rfl rfl (Nat.le_refl _) (Nat.le_refl _)
set_option maxRecDepth 100000 in
set_option maxHeartbeats 4000000 in
theorem cCx_slot1 (l : Launch) (hl9 : l.stackTraces = false) (G : gG) (q : Nat → Nat) (m : gM) (h : gN) (a1 a2 a3 : Int32) (hok : ox_h_slot m a1 a2 (1 : Int32)) : gMx l yL_call wsL_call rmCx G shH q m h [.ref (q 0), .int 12, .int a1, .int a2, .int (1 : Int32)] (fx_h_slot m a1 a2 (1 : Int32)) (m) h := by
  intro sz
  refine g_metx (cc := cL_call) (maxL := 5) (ret := (some .int)) (own := RL) (by decide) rfl rfl (Nat.le_of_ble_eq_true rfl) (fun p e s m9 below meth c C hq hX htab => ?_)
  refine x_lv (lv' := [(0, .ref (q 0)), (1, .int 12), (2, .int a1), (3, .int a2), (4, .int (1 : Int32))]) [0, 1, 2, 3, 4] rfl ?_
  refine x_iload_n C dL_call_0 rfl 1 rfl ?_
  refine x_tin (v := (12 : Int32)) (tgt := 166) C dL_call_1 rfl (by decide) (by decide) rfl (by decide) ?_
  refine x_aload_n C dL_call_166 rfl 0 rfl ?_
  refine x_iload_n C dL_call_167 rfl 2 rfl ?_
  refine x_iload_n C dL_call_168 rfl 3 rfl ?_
  refine x_iload C dL_call_169 4 rfl ?_
  refine x_if_le (tgt := 178) C dL_call_171 (by decide) (fun c9 => absurd c9 (by decide)) (fun _ => ?_)
  refine x_iconst (v := (1 : Int32)) C dL_call_174 (by decide) ?_
  refine x_goto (tgt := 179) C dL_call_175 (by decide) ?_
  exact x_thrV (n := 3) C hq hX htab (cx_h_slot l hl9 G q m h a1 a2 (1 : Int32) hok) (cwV 3 C.2.2.2.2.2.1 gL_call_X2_slot rfl rfl rfl (by decide +kernel) ⟨Nat.le_of_ble_eq_true rfl, Nat.le_of_ble_eq_true rfl⟩) rfl rfl rfl rfl (Nat.le_of_ble_eq_true rfl) dL_call_179 (Nat.le_refl _) (Nat.le_refl _)
set_option maxRecDepth 100000 in
set_option maxHeartbeats 4000000 in
theorem cT_slot1_IO (l : Launch) (hl9 : l.stackTraces = false) (G : gG) (q : Nat → Nat) (m : gM) (h : gN) (a1 a2 a3 : Int32) (hok : ox_h_slot m a1 a2 (1 : Int32)) (hE : (fx_h_slot m a1 a2 (1 : Int32)) = "java/lang/IndexOutOfBoundsException") : gMs l yL_told wsL_told rmT G shH q m h [.ref (q 0), .int 12, .int a1, .int a2, .int (1 : Int32)] (m) h (-11) 1 6 := by
  intro sz
  refine g_metw (cc := cL_told) (maxL := 6) (ret := (some .int)) (own := RL) (hh := [(0, 9, 10, 79), (0, 9, 15, 81), (0, 9, 20, 83)]) (Qc := fun sz => gQi G shH q (m) h sz (-11)) (by decide) rfl rfl (Nat.le_of_ble_eq_true rfl) (fun p e s m9 below meth c C hq hX htab hr => ?_)
  refine x_lv (lv' := [(0, .ref (q 0)), (1, .int 12), (2, .int a1), (3, .int a2), (4, .int (1 : Int32))]) [0, 1, 2, 3, 4] rfl ?_
  refine x_aload_n C dL_told_0 rfl 0 rfl ?_
  refine x_iload_n C dL_told_1 rfl 1 rfl ?_
  refine x_iload_n C dL_told_2 rfl 2 rfl ?_
  refine x_iload_n C dL_told_3 rfl 3 rfl ?_
  refine x_iload C dL_told_4 4 rfl ?_
  refine x_catS (n := 5) (E := "java/lang/IndexOutOfBoundsException") C hq hX (hE ▸ cCx_slot1 l hl9 G q m h a1 a2 a3 hok) (va_cwS 5 C.2.2.2.2.2.1 gL_told_L_call rfl rfl rfl (by decide +kernel) ⟨Nat.le_of_ble_eq_true rfl, Nat.le_of_ble_eq_true rfl⟩) rfl rfl (Nat.le_of_ble_eq_true rfl) dL_told_6 (Nat.le_refl _) (Nat.le_refl _) [] ⟨0, 9, 10, 79⟩ [⟨0, 9, 15, 81⟩, ⟨0, 9, 20, 83⟩] htab (fun z hz => absurd hz List.not_mem_nil) (by decide) (by decide) kt_IO (by decide +kernel) (hpc := 10) rfl (fun q9 => ?_)
  refine x_astore (lv' := [(5, .ref q9)]) C dL_told_10 (by decide) [0] rfl ?_
  refine x_bipush (v := (-11 : Int32)) C dL_told_12 (by decide) ?_
  exact g_sret C hr rfl dL_told_14 rfl rfl rfl (Nat.le_refl _) (Nat.le_refl _)
set_option maxRecDepth 100000 in
set_option maxHeartbeats 4000000 in
theorem cCx_stream (l : Launch) (hl9 : l.stackTraces = false) (G : gG) (q : Nat → Nat) (m : gM) (h : gN) (a1 a2 a3 : Int32) (hok : ox_h_stream m a1 a2) : gMx l yL_call wsL_call rmCx G shH q m h [.ref (q 0), .int 13, .int a1, .int a2, .int a3] (fx_h_stream m a1 a2) (m) h := by
  intro sz
  refine g_metx (cc := cL_call) (maxL := 5) (ret := (some .int)) (own := RL) (by decide) rfl rfl (Nat.le_of_ble_eq_true rfl) (fun p e s m9 below meth c C hq hX htab => ?_)
  refine x_lv (lv' := [(0, .ref (q 0)), (1, .int 13), (2, .int a1), (3, .int a2), (4, .int a3)]) [0, 1, 2, 3, 4] rfl ?_
  refine x_iload_n C dL_call_0 rfl 1 rfl ?_
  refine x_tin (v := (13 : Int32)) (tgt := 183) C dL_call_1 rfl (by decide) (by decide) rfl (by decide) ?_
  refine x_aload_n C dL_call_183 rfl 0 rfl ?_
  refine x_iload_n C dL_call_184 rfl 2 rfl ?_
  refine x_iload_n C dL_call_185 rfl 3 rfl ?_
  exact x_thrV (n := 2) C hq hX htab (cx_h_stream l hl9 G q m h a1 a2 hok) (cwV 2 C.2.2.2.2.2.1 gL_call_X2_stream rfl rfl rfl (by decide +kernel) ⟨Nat.le_of_ble_eq_true rfl, Nat.le_of_ble_eq_true rfl⟩) rfl rfl rfl rfl (Nat.le_of_ble_eq_true rfl) dL_call_186 (Nat.le_refl _) (Nat.le_refl _)
set_option maxRecDepth 100000 in
set_option maxHeartbeats 4000000 in
theorem cT_stream_IO (l : Launch) (hl9 : l.stackTraces = false) (G : gG) (q : Nat → Nat) (m : gM) (h : gN) (a1 a2 a3 : Int32) (hok : ox_h_stream m a1 a2) (hE : (fx_h_stream m a1 a2) = "java/lang/IndexOutOfBoundsException") : gMs l yL_told wsL_told rmT G shH q m h [.ref (q 0), .int 13, .int a1, .int a2, .int a3] (m) h (-11) 1 6 := by
  intro sz
  refine g_metw (cc := cL_told) (maxL := 6) (ret := (some .int)) (own := RL) (hh := [(0, 9, 10, 79), (0, 9, 15, 81), (0, 9, 20, 83)]) (Qc := fun sz => gQi G shH q (m) h sz (-11)) (by decide) rfl rfl (Nat.le_of_ble_eq_true rfl) (fun p e s m9 below meth c C hq hX htab hr => ?_)
  refine x_lv (lv' := [(0, .ref (q 0)), (1, .int 13), (2, .int a1), (3, .int a2), (4, .int a3)]) [0, 1, 2, 3, 4] rfl ?_
  refine x_aload_n C dL_told_0 rfl 0 rfl ?_
  refine x_iload_n C dL_told_1 rfl 1 rfl ?_
  refine x_iload_n C dL_told_2 rfl 2 rfl ?_
  refine x_iload_n C dL_told_3 rfl 3 rfl ?_
  refine x_iload C dL_told_4 4 rfl ?_
  refine x_catS (n := 5) (E := "java/lang/IndexOutOfBoundsException") C hq hX (hE ▸ cCx_stream l hl9 G q m h a1 a2 a3 hok) (va_cwS 5 C.2.2.2.2.2.1 gL_told_L_call rfl rfl rfl (by decide +kernel) ⟨Nat.le_of_ble_eq_true rfl, Nat.le_of_ble_eq_true rfl⟩) rfl rfl (Nat.le_of_ble_eq_true rfl) dL_told_6 (Nat.le_refl _) (Nat.le_refl _) [] ⟨0, 9, 10, 79⟩ [⟨0, 9, 15, 81⟩, ⟨0, 9, 20, 83⟩] htab (fun z hz => absurd hz List.not_mem_nil) (by decide) (by decide) kt_IO (by decide +kernel) (hpc := 10) rfl (fun q9 => ?_)
  refine x_astore (lv' := [(5, .ref q9)]) C dL_told_10 (by decide) [0] rfl ?_
  refine x_bipush (v := (-11 : Int32)) C dL_told_12 (by decide) ?_
  exact g_sret C hr rfl dL_told_14 rfl rfl rfl (Nat.le_refl _) (Nat.le_refl _)
set_option maxRecDepth 100000 in
set_option maxHeartbeats 4000000 in
theorem cT_stream_IA (l : Launch) (hl9 : l.stackTraces = false) (G : gG) (q : Nat → Nat) (m : gM) (h : gN) (a1 a2 a3 : Int32) (hok : ox_h_stream m a1 a2) (hE : (fx_h_stream m a1 a2) = "java/lang/IllegalArgumentException") : gMs l yL_told wsL_told rmT G shH q m h [.ref (q 0), .int 13, .int a1, .int a2, .int a3] (m) h (-12) 1 6 := by
  intro sz
  refine g_metw (cc := cL_told) (maxL := 6) (ret := (some .int)) (own := RL) (hh := [(0, 9, 10, 79), (0, 9, 15, 81), (0, 9, 20, 83)]) (Qc := fun sz => gQi G shH q (m) h sz (-12)) (by decide) rfl rfl (Nat.le_of_ble_eq_true rfl) (fun p e s m9 below meth c C hq hX htab hr => ?_)
  refine x_lv (lv' := [(0, .ref (q 0)), (1, .int 13), (2, .int a1), (3, .int a2), (4, .int a3)]) [0, 1, 2, 3, 4] rfl ?_
  refine x_aload_n C dL_told_0 rfl 0 rfl ?_
  refine x_iload_n C dL_told_1 rfl 1 rfl ?_
  refine x_iload_n C dL_told_2 rfl 2 rfl ?_
  refine x_iload_n C dL_told_3 rfl 3 rfl ?_
  refine x_iload C dL_told_4 4 rfl ?_
  refine x_catS (n := 5) (E := "java/lang/IllegalArgumentException") C hq hX (hE ▸ cCx_stream l hl9 G q m h a1 a2 a3 hok) (va_cwS 5 C.2.2.2.2.2.1 gL_told_L_call rfl rfl rfl (by decide +kernel) ⟨Nat.le_of_ble_eq_true rfl, Nat.le_of_ble_eq_true rfl⟩) rfl rfl (Nat.le_of_ble_eq_true rfl) dL_told_6 (Nat.le_refl _) (Nat.le_refl _) [⟨0, 9, 10, 79⟩] ⟨0, 9, 15, 81⟩ [⟨0, 9, 20, 83⟩] htab (fun z hz => by simp only [List.mem_cons, List.not_mem_nil, or_false] at hz; rcases hz with rfl <;> first | (exact ⟨by decide, "java/lang/IndexOutOfBoundsException", kt_IO, by decide +kernel⟩; done)) (by decide) (by decide) kt_IA (by decide +kernel) (hpc := 15) rfl (fun q9 => ?_)
  refine x_astore (lv' := [(5, .ref q9)]) C dL_told_15 (by decide) [0] rfl ?_
  refine x_bipush (v := (-12 : Int32)) C dL_told_17 (by decide) ?_
  exact g_sret C hr rfl dL_told_19 rfl rfl rfl (Nat.le_refl _) (Nat.le_refl _)
set_option maxRecDepth 100000 in
set_option maxHeartbeats 4000000 in
theorem cCx_count (l : Launch) (hl9 : l.stackTraces = false) (G : gG) (q : Nat → Nat) (m : gM) (h : gN) (a1 a2 a3 : Int32) (hok : ox_h_count m a1) : gMx l yL_call wsL_call rmCx G shH q m h [.ref (q 0), .int 14, .int a1, .int a2, .int a3] (fx_h_count m a1) (m) h := by
  intro sz
  refine g_metx (cc := cL_call) (maxL := 5) (ret := (some .int)) (own := RL) (by decide) rfl rfl (Nat.le_of_ble_eq_true rfl) (fun p e s m9 below meth c C hq hX htab => ?_)
  refine x_lv (lv' := [(0, .ref (q 0)), (1, .int 14), (2, .int a1), (3, .int a2), (4, .int a3)]) [0, 1, 2, 3, 4] rfl ?_
  refine x_iload_n C dL_call_0 rfl 1 rfl ?_
  refine x_tin (v := (14 : Int32)) (tgt := 190) C dL_call_1 rfl (by decide) (by decide) rfl (by decide) ?_
  refine x_aload_n C dL_call_190 rfl 0 rfl ?_
  refine x_iload_n C dL_call_191 rfl 2 rfl ?_
  exact x_thrV (n := 1) C hq hX htab (cx_h_count l hl9 G q m h a1 hok) (cwV 1 C.2.2.2.2.2.1 gL_call_X2_count rfl rfl rfl (by decide +kernel) ⟨Nat.le_of_ble_eq_true rfl, Nat.le_of_ble_eq_true rfl⟩) rfl rfl rfl rfl (Nat.le_of_ble_eq_true rfl) dL_call_192 (Nat.le_refl _) (Nat.le_refl _)
set_option maxRecDepth 100000 in
set_option maxHeartbeats 4000000 in
theorem cT_count_IA (l : Launch) (hl9 : l.stackTraces = false) (G : gG) (q : Nat → Nat) (m : gM) (h : gN) (a1 a2 a3 : Int32) (hok : ox_h_count m a1) (hE : (fx_h_count m a1) = "java/lang/IllegalArgumentException") : gMs l yL_told wsL_told rmT G shH q m h [.ref (q 0), .int 14, .int a1, .int a2, .int a3] (m) h (-12) 1 6 := by
  intro sz
  refine g_metw (cc := cL_told) (maxL := 6) (ret := (some .int)) (own := RL) (hh := [(0, 9, 10, 79), (0, 9, 15, 81), (0, 9, 20, 83)]) (Qc := fun sz => gQi G shH q (m) h sz (-12)) (by decide) rfl rfl (Nat.le_of_ble_eq_true rfl) (fun p e s m9 below meth c C hq hX htab hr => ?_)
  refine x_lv (lv' := [(0, .ref (q 0)), (1, .int 14), (2, .int a1), (3, .int a2), (4, .int a3)]) [0, 1, 2, 3, 4] rfl ?_
  refine x_aload_n C dL_told_0 rfl 0 rfl ?_
  refine x_iload_n C dL_told_1 rfl 1 rfl ?_
  refine x_iload_n C dL_told_2 rfl 2 rfl ?_
  refine x_iload_n C dL_told_3 rfl 3 rfl ?_
  refine x_iload C dL_told_4 4 rfl ?_
  refine x_catS (n := 5) (E := "java/lang/IllegalArgumentException") C hq hX (hE ▸ cCx_count l hl9 G q m h a1 a2 a3 hok) (va_cwS 5 C.2.2.2.2.2.1 gL_told_L_call rfl rfl rfl (by decide +kernel) ⟨Nat.le_of_ble_eq_true rfl, Nat.le_of_ble_eq_true rfl⟩) rfl rfl (Nat.le_of_ble_eq_true rfl) dL_told_6 (Nat.le_refl _) (Nat.le_refl _) [⟨0, 9, 10, 79⟩] ⟨0, 9, 15, 81⟩ [⟨0, 9, 20, 83⟩] htab (fun z hz => by simp only [List.mem_cons, List.not_mem_nil, or_false] at hz; rcases hz with rfl <;> first | (exact ⟨by decide, "java/lang/IndexOutOfBoundsException", kt_IO, by decide +kernel⟩; done)) (by decide) (by decide) kt_IA (by decide +kernel) (hpc := 15) rfl (fun q9 => ?_)
  refine x_astore (lv' := [(5, .ref q9)]) C dL_told_15 (by decide) [0] rfl ?_
  refine x_bipush (v := (-12 : Int32)) C dL_told_17 (by decide) ?_
  exact g_sret C hr rfl dL_told_19 rfl rfl rfl (Nat.le_refl _) (Nat.le_refl _)
set_option maxRecDepth 100000 in
set_option maxHeartbeats 4000000 in
theorem cCx_setting (l : Launch) (hl9 : l.stackTraces = false) (G : gG) (q : Nat → Nat) (m : gM) (h : gN) (a1 a2 a3 : Int32) (hok : ox_h_setting m a1) : gMx l yL_call wsL_call rmCx G shH q m h [.ref (q 0), .int 15, .int a1, .int a2, .int a3] (fx_h_setting m a1) (m) h := by
  intro sz
  refine g_metx (cc := cL_call) (maxL := 5) (ret := (some .int)) (own := RL) (by decide) rfl rfl (Nat.le_of_ble_eq_true rfl) (fun p e s m9 below meth c C hq hX htab => ?_)
  refine x_lv (lv' := [(0, .ref (q 0)), (1, .int 15), (2, .int a1), (3, .int a2), (4, .int a3)]) [0, 1, 2, 3, 4] rfl ?_
  refine x_iload_n C dL_call_0 rfl 1 rfl ?_
  refine x_tin (v := (15 : Int32)) (tgt := 196) C dL_call_1 rfl (by decide) (by decide) rfl (by decide) ?_
  refine x_aload_n C dL_call_196 rfl 0 rfl ?_
  refine x_iload_n C dL_call_197 rfl 2 rfl ?_
  exact x_thrV (n := 1) C hq hX htab (cx_h_setting l hl9 G q m h a1 hok) (cwV 1 C.2.2.2.2.2.1 gL_call_X2_setting rfl rfl rfl (by decide +kernel) ⟨Nat.le_of_ble_eq_true rfl, Nat.le_of_ble_eq_true rfl⟩) rfl rfl rfl rfl (Nat.le_of_ble_eq_true rfl) dL_call_198 (Nat.le_refl _) (Nat.le_refl _)
set_option maxRecDepth 100000 in
set_option maxHeartbeats 4000000 in
theorem cT_setting_IO (l : Launch) (hl9 : l.stackTraces = false) (G : gG) (q : Nat → Nat) (m : gM) (h : gN) (a1 a2 a3 : Int32) (hok : ox_h_setting m a1) (hE : (fx_h_setting m a1) = "java/lang/IndexOutOfBoundsException") : gMs l yL_told wsL_told rmT G shH q m h [.ref (q 0), .int 15, .int a1, .int a2, .int a3] (m) h (-11) 1 6 := by
  intro sz
  refine g_metw (cc := cL_told) (maxL := 6) (ret := (some .int)) (own := RL) (hh := [(0, 9, 10, 79), (0, 9, 15, 81), (0, 9, 20, 83)]) (Qc := fun sz => gQi G shH q (m) h sz (-11)) (by decide) rfl rfl (Nat.le_of_ble_eq_true rfl) (fun p e s m9 below meth c C hq hX htab hr => ?_)
  refine x_lv (lv' := [(0, .ref (q 0)), (1, .int 15), (2, .int a1), (3, .int a2), (4, .int a3)]) [0, 1, 2, 3, 4] rfl ?_
  refine x_aload_n C dL_told_0 rfl 0 rfl ?_
  refine x_iload_n C dL_told_1 rfl 1 rfl ?_
  refine x_iload_n C dL_told_2 rfl 2 rfl ?_
  refine x_iload_n C dL_told_3 rfl 3 rfl ?_
  refine x_iload C dL_told_4 4 rfl ?_
  refine x_catS (n := 5) (E := "java/lang/IndexOutOfBoundsException") C hq hX (hE ▸ cCx_setting l hl9 G q m h a1 a2 a3 hok) (va_cwS 5 C.2.2.2.2.2.1 gL_told_L_call rfl rfl rfl (by decide +kernel) ⟨Nat.le_of_ble_eq_true rfl, Nat.le_of_ble_eq_true rfl⟩) rfl rfl (Nat.le_of_ble_eq_true rfl) dL_told_6 (Nat.le_refl _) (Nat.le_refl _) [] ⟨0, 9, 10, 79⟩ [⟨0, 9, 15, 81⟩, ⟨0, 9, 20, 83⟩] htab (fun z hz => absurd hz List.not_mem_nil) (by decide) (by decide) kt_IO (by decide +kernel) (hpc := 10) rfl (fun q9 => ?_)
  refine x_astore (lv' := [(5, .ref q9)]) C dL_told_10 (by decide) [0] rfl ?_
  refine x_bipush (v := (-11 : Int32)) C dL_told_12 (by decide) ?_
  exact g_sret C hr rfl dL_told_14 rfl rfl rfl (Nat.le_refl _) (Nat.le_refl _)
set_option maxRecDepth 100000 in
set_option maxHeartbeats 4000000 in
theorem cCx_ifWritten (l : Launch) (hl9 : l.stackTraces = false) (G : gG) (q : Nat → Nat) (m : gM) (h : gN) (a1 a2 a3 : Int32) (hok : ox_h_ifWritten m a1 a2 a3) : gMx l yL_call wsL_call rmCx G shH q m h [.ref (q 0), .int 16, .int a1, .int a2, .int a3] (fx_h_ifWritten m a1 a2 a3) (m) h := by
  intro sz
  refine g_metx (cc := cL_call) (maxL := 5) (ret := (some .int)) (own := RL) (by decide) rfl rfl (Nat.le_of_ble_eq_true rfl) (fun p e s m9 below meth c C hq hX htab => ?_)
  refine x_lv (lv' := [(0, .ref (q 0)), (1, .int 16), (2, .int a1), (3, .int a2), (4, .int a3)]) [0, 1, 2, 3, 4] rfl ?_
  refine x_iload_n C dL_call_0 rfl 1 rfl ?_
  refine x_tin (v := (16 : Int32)) (tgt := 202) C dL_call_1 rfl (by decide) (by decide) rfl (by decide) ?_
  refine x_aload_n C dL_call_202 rfl 0 rfl ?_
  refine x_iload_n C dL_call_203 rfl 2 rfl ?_
  refine x_iload_n C dL_call_204 rfl 3 rfl ?_
  refine x_iload C dL_call_205 4 rfl ?_
  exact x_thrV (n := 3) C hq hX htab (cx_h_ifWritten l hl9 G q m h a1 a2 a3 hok) (cwV 3 C.2.2.2.2.2.1 gL_call_X2_ifWritten rfl rfl rfl (by decide +kernel) ⟨Nat.le_of_ble_eq_true rfl, Nat.le_of_ble_eq_true rfl⟩) rfl rfl rfl rfl (Nat.le_of_ble_eq_true rfl) dL_call_207 (Nat.le_refl _) (Nat.le_refl _)
set_option maxRecDepth 100000 in
set_option maxHeartbeats 4000000 in
theorem cT_ifWritten_IO (l : Launch) (hl9 : l.stackTraces = false) (G : gG) (q : Nat → Nat) (m : gM) (h : gN) (a1 a2 a3 : Int32) (hok : ox_h_ifWritten m a1 a2 a3) (hE : (fx_h_ifWritten m a1 a2 a3) = "java/lang/IndexOutOfBoundsException") : gMs l yL_told wsL_told rmT G shH q m h [.ref (q 0), .int 16, .int a1, .int a2, .int a3] (m) h (-11) 1 6 := by
  intro sz
  refine g_metw (cc := cL_told) (maxL := 6) (ret := (some .int)) (own := RL) (hh := [(0, 9, 10, 79), (0, 9, 15, 81), (0, 9, 20, 83)]) (Qc := fun sz => gQi G shH q (m) h sz (-11)) (by decide) rfl rfl (Nat.le_of_ble_eq_true rfl) (fun p e s m9 below meth c C hq hX htab hr => ?_)
  refine x_lv (lv' := [(0, .ref (q 0)), (1, .int 16), (2, .int a1), (3, .int a2), (4, .int a3)]) [0, 1, 2, 3, 4] rfl ?_
  refine x_aload_n C dL_told_0 rfl 0 rfl ?_
  refine x_iload_n C dL_told_1 rfl 1 rfl ?_
  refine x_iload_n C dL_told_2 rfl 2 rfl ?_
  refine x_iload_n C dL_told_3 rfl 3 rfl ?_
  refine x_iload C dL_told_4 4 rfl ?_
  refine x_catS (n := 5) (E := "java/lang/IndexOutOfBoundsException") C hq hX (hE ▸ cCx_ifWritten l hl9 G q m h a1 a2 a3 hok) (va_cwS 5 C.2.2.2.2.2.1 gL_told_L_call rfl rfl rfl (by decide +kernel) ⟨Nat.le_of_ble_eq_true rfl, Nat.le_of_ble_eq_true rfl⟩) rfl rfl (Nat.le_of_ble_eq_true rfl) dL_told_6 (Nat.le_refl _) (Nat.le_refl _) [] ⟨0, 9, 10, 79⟩ [⟨0, 9, 15, 81⟩, ⟨0, 9, 20, 83⟩] htab (fun z hz => absurd hz List.not_mem_nil) (by decide) (by decide) kt_IO (by decide +kernel) (hpc := 10) rfl (fun q9 => ?_)
  refine x_astore (lv' := [(5, .ref q9)]) C dL_told_10 (by decide) [0] rfl ?_
  refine x_bipush (v := (-11 : Int32)) C dL_told_12 (by decide) ?_
  exact g_sret C hr rfl dL_told_14 rfl rfl rfl (Nat.le_refl _) (Nat.le_refl _)
set_option maxRecDepth 100000 in
set_option maxHeartbeats 4000000 in
theorem cT_ifWritten_IA (l : Launch) (hl9 : l.stackTraces = false) (G : gG) (q : Nat → Nat) (m : gM) (h : gN) (a1 a2 a3 : Int32) (hok : ox_h_ifWritten m a1 a2 a3) (hE : (fx_h_ifWritten m a1 a2 a3) = "java/lang/IllegalArgumentException") : gMs l yL_told wsL_told rmT G shH q m h [.ref (q 0), .int 16, .int a1, .int a2, .int a3] (m) h (-12) 1 6 := by
  intro sz
  refine g_metw (cc := cL_told) (maxL := 6) (ret := (some .int)) (own := RL) (hh := [(0, 9, 10, 79), (0, 9, 15, 81), (0, 9, 20, 83)]) (Qc := fun sz => gQi G shH q (m) h sz (-12)) (by decide) rfl rfl (Nat.le_of_ble_eq_true rfl) (fun p e s m9 below meth c C hq hX htab hr => ?_)
  refine x_lv (lv' := [(0, .ref (q 0)), (1, .int 16), (2, .int a1), (3, .int a2), (4, .int a3)]) [0, 1, 2, 3, 4] rfl ?_
  refine x_aload_n C dL_told_0 rfl 0 rfl ?_
  refine x_iload_n C dL_told_1 rfl 1 rfl ?_
  refine x_iload_n C dL_told_2 rfl 2 rfl ?_
  refine x_iload_n C dL_told_3 rfl 3 rfl ?_
  refine x_iload C dL_told_4 4 rfl ?_
  refine x_catS (n := 5) (E := "java/lang/IllegalArgumentException") C hq hX (hE ▸ cCx_ifWritten l hl9 G q m h a1 a2 a3 hok) (va_cwS 5 C.2.2.2.2.2.1 gL_told_L_call rfl rfl rfl (by decide +kernel) ⟨Nat.le_of_ble_eq_true rfl, Nat.le_of_ble_eq_true rfl⟩) rfl rfl (Nat.le_of_ble_eq_true rfl) dL_told_6 (Nat.le_refl _) (Nat.le_refl _) [⟨0, 9, 10, 79⟩] ⟨0, 9, 15, 81⟩ [⟨0, 9, 20, 83⟩] htab (fun z hz => by simp only [List.mem_cons, List.not_mem_nil, or_false] at hz; rcases hz with rfl <;> first | (exact ⟨by decide, "java/lang/IndexOutOfBoundsException", kt_IO, by decide +kernel⟩; done)) (by decide) (by decide) kt_IA (by decide +kernel) (hpc := 15) rfl (fun q9 => ?_)
  refine x_astore (lv' := [(5, .ref q9)]) C dL_told_15 (by decide) [0] rfl ?_
  refine x_bipush (v := (-12 : Int32)) C dL_told_17 (by decide) ?_
  exact g_sret C hr rfl dL_told_19 rfl rfl rfl (Nat.le_refl _) (Nat.le_refl _)
set_option maxRecDepth 100000 in
set_option maxHeartbeats 4000000 in
theorem cCx_ifRewritten (l : Launch) (hl9 : l.stackTraces = false) (G : gG) (q : Nat → Nat) (m : gM) (h : gN) (a1 a2 a3 : Int32) (hok : ox_h_ifRewritten m a1) : gMx l yL_call wsL_call rmCx G shH q m h [.ref (q 0), .int 17, .int a1, .int a2, .int a3] (fx_h_ifRewritten m a1) (m) h := by
  intro sz
  refine g_metx (cc := cL_call) (maxL := 5) (ret := (some .int)) (own := RL) (by decide) rfl rfl (Nat.le_of_ble_eq_true rfl) (fun p e s m9 below meth c C hq hX htab => ?_)
  refine x_lv (lv' := [(0, .ref (q 0)), (1, .int 17), (2, .int a1), (3, .int a2), (4, .int a3)]) [0, 1, 2, 3, 4] rfl ?_
  refine x_iload_n C dL_call_0 rfl 1 rfl ?_
  refine x_tin (v := (17 : Int32)) (tgt := 211) C dL_call_1 rfl (by decide) (by decide) rfl (by decide) ?_
  refine x_aload_n C dL_call_211 rfl 0 rfl ?_
  refine x_iload_n C dL_call_212 rfl 2 rfl ?_
  exact x_thrV (n := 1) C hq hX htab (cx_h_ifRewritten l hl9 G q m h a1 hok) (cwV 1 C.2.2.2.2.2.1 gL_call_X2_ifRewritten rfl rfl rfl (by decide +kernel) ⟨Nat.le_of_ble_eq_true rfl, Nat.le_of_ble_eq_true rfl⟩) rfl rfl rfl rfl (Nat.le_of_ble_eq_true rfl) dL_call_213 (Nat.le_refl _) (Nat.le_refl _)
set_option maxRecDepth 100000 in
set_option maxHeartbeats 4000000 in
theorem cT_ifRewritten_IA (l : Launch) (hl9 : l.stackTraces = false) (G : gG) (q : Nat → Nat) (m : gM) (h : gN) (a1 a2 a3 : Int32) (hok : ox_h_ifRewritten m a1) (hE : (fx_h_ifRewritten m a1) = "java/lang/IllegalArgumentException") : gMs l yL_told wsL_told rmT G shH q m h [.ref (q 0), .int 17, .int a1, .int a2, .int a3] (m) h (-12) 1 6 := by
  intro sz
  refine g_metw (cc := cL_told) (maxL := 6) (ret := (some .int)) (own := RL) (hh := [(0, 9, 10, 79), (0, 9, 15, 81), (0, 9, 20, 83)]) (Qc := fun sz => gQi G shH q (m) h sz (-12)) (by decide) rfl rfl (Nat.le_of_ble_eq_true rfl) (fun p e s m9 below meth c C hq hX htab hr => ?_)
  refine x_lv (lv' := [(0, .ref (q 0)), (1, .int 17), (2, .int a1), (3, .int a2), (4, .int a3)]) [0, 1, 2, 3, 4] rfl ?_
  refine x_aload_n C dL_told_0 rfl 0 rfl ?_
  refine x_iload_n C dL_told_1 rfl 1 rfl ?_
  refine x_iload_n C dL_told_2 rfl 2 rfl ?_
  refine x_iload_n C dL_told_3 rfl 3 rfl ?_
  refine x_iload C dL_told_4 4 rfl ?_
  refine x_catS (n := 5) (E := "java/lang/IllegalArgumentException") C hq hX (hE ▸ cCx_ifRewritten l hl9 G q m h a1 a2 a3 hok) (va_cwS 5 C.2.2.2.2.2.1 gL_told_L_call rfl rfl rfl (by decide +kernel) ⟨Nat.le_of_ble_eq_true rfl, Nat.le_of_ble_eq_true rfl⟩) rfl rfl (Nat.le_of_ble_eq_true rfl) dL_told_6 (Nat.le_refl _) (Nat.le_refl _) [⟨0, 9, 10, 79⟩] ⟨0, 9, 15, 81⟩ [⟨0, 9, 20, 83⟩] htab (fun z hz => by simp only [List.mem_cons, List.not_mem_nil, or_false] at hz; rcases hz with rfl <;> first | (exact ⟨by decide, "java/lang/IndexOutOfBoundsException", kt_IO, by decide +kernel⟩; done)) (by decide) (by decide) kt_IA (by decide +kernel) (hpc := 15) rfl (fun q9 => ?_)
  refine x_astore (lv' := [(5, .ref q9)]) C dL_told_15 (by decide) [0] rfl ?_
  refine x_bipush (v := (-12 : Int32)) C dL_told_17 (by decide) ?_
  exact g_sret C hr rfl dL_told_19 rfl rfl rfl (Nat.le_refl _) (Nat.le_refl _)
set_option maxRecDepth 100000 in
set_option maxHeartbeats 4000000 in
theorem cCx_bestRule (l : Launch) (hl9 : l.stackTraces = false) (G : gG) (q : Nat → Nat) (m : gM) (h : gN) (a1 a2 a3 : Int32) (hok : ox_h_bestRule m a1) : gMx l yL_call wsL_call rmCx G shH q m h [.ref (q 0), .int 18, .int a1, .int a2, .int a3] (fx_h_bestRule m a1) (m) h := by
  intro sz
  refine g_metx (cc := cL_call) (maxL := 5) (ret := (some .int)) (own := RL) (by decide) rfl rfl (Nat.le_of_ble_eq_true rfl) (fun p e s m9 below meth c C hq hX htab => ?_)
  refine x_lv (lv' := [(0, .ref (q 0)), (1, .int 18), (2, .int a1), (3, .int a2), (4, .int a3)]) [0, 1, 2, 3, 4] rfl ?_
  refine x_iload_n C dL_call_0 rfl 1 rfl ?_
  refine x_tout (tgt := 217) C dL_call_1 (by decide) (by decide) ?_
  refine x_aload_n C dL_call_217 rfl 0 rfl ?_
  refine x_iload_n C dL_call_218 rfl 2 rfl ?_
  exact x_thrV (n := 1) C hq hX htab (cx_h_bestRule l hl9 G q m h a1 hok) (cwV 1 C.2.2.2.2.2.1 gL_call_X2_bestRule rfl rfl rfl (by decide +kernel) ⟨Nat.le_of_ble_eq_true rfl, Nat.le_of_ble_eq_true rfl⟩) rfl rfl rfl rfl (Nat.le_of_ble_eq_true rfl) dL_call_219 (Nat.le_refl _) (Nat.le_refl _)
set_option maxRecDepth 100000 in
set_option maxHeartbeats 4000000 in
theorem cT_bestRule_IA (l : Launch) (hl9 : l.stackTraces = false) (G : gG) (q : Nat → Nat) (m : gM) (h : gN) (a1 a2 a3 : Int32) (hok : ox_h_bestRule m a1) (hE : (fx_h_bestRule m a1) = "java/lang/IllegalArgumentException") : gMs l yL_told wsL_told rmT G shH q m h [.ref (q 0), .int 18, .int a1, .int a2, .int a3] (m) h (-12) 1 6 := by
  intro sz
  refine g_metw (cc := cL_told) (maxL := 6) (ret := (some .int)) (own := RL) (hh := [(0, 9, 10, 79), (0, 9, 15, 81), (0, 9, 20, 83)]) (Qc := fun sz => gQi G shH q (m) h sz (-12)) (by decide) rfl rfl (Nat.le_of_ble_eq_true rfl) (fun p e s m9 below meth c C hq hX htab hr => ?_)
  refine x_lv (lv' := [(0, .ref (q 0)), (1, .int 18), (2, .int a1), (3, .int a2), (4, .int a3)]) [0, 1, 2, 3, 4] rfl ?_
  refine x_aload_n C dL_told_0 rfl 0 rfl ?_
  refine x_iload_n C dL_told_1 rfl 1 rfl ?_
  refine x_iload_n C dL_told_2 rfl 2 rfl ?_
  refine x_iload_n C dL_told_3 rfl 3 rfl ?_
  refine x_iload C dL_told_4 4 rfl ?_
  refine x_catS (n := 5) (E := "java/lang/IllegalArgumentException") C hq hX (hE ▸ cCx_bestRule l hl9 G q m h a1 a2 a3 hok) (va_cwS 5 C.2.2.2.2.2.1 gL_told_L_call rfl rfl rfl (by decide +kernel) ⟨Nat.le_of_ble_eq_true rfl, Nat.le_of_ble_eq_true rfl⟩) rfl rfl (Nat.le_of_ble_eq_true rfl) dL_told_6 (Nat.le_refl _) (Nat.le_refl _) [⟨0, 9, 10, 79⟩] ⟨0, 9, 15, 81⟩ [⟨0, 9, 20, 83⟩] htab (fun z hz => by simp only [List.mem_cons, List.not_mem_nil, or_false] at hz; rcases hz with rfl <;> first | (exact ⟨by decide, "java/lang/IndexOutOfBoundsException", kt_IO, by decide +kernel⟩; done)) (by decide) (by decide) kt_IA (by decide +kernel) (hpc := 15) rfl (fun q9 => ?_)
  refine x_astore (lv' := [(5, .ref q9)]) C dL_told_15 (by decide) [0] rfl ?_
  refine x_bipush (v := (-12 : Int32)) C dL_told_17 (by decide) ?_
  exact g_sret C hr rfl dL_told_19 rfl rfl rfl (Nat.le_refl _) (Nat.le_refl _)
