def shW : List gC := shH ++ [.inr (.inr (.inr 1))]
theorem x_stk {p : Program} {l : Launch} {e : Env} {R : Room} {s : State} {m : MethodId} {args : Array Value} {below : List Frame} {meth : Method} {c : Code} {G : gG} {A : Nat → Prop} {nL : Nat} {Q : State → Prop} {cells slots : Nat} {sh : List gC} {q : Nat → Nat} {μ : gM} {ν : gN} {lv : List (Nat × Value)} {st st' : List Value} {pc : Nat} (h : st = st') (k : xJ p l e R s m args below meth c G A nL Q cells slots sh q μ ν lv st' pc) : xJ p l e R s m args below meth c G A nL Q cells slots sh q μ ν lv st pc := by subst h; exact k
abbrev rmw_write : Room := { frames := 7, cells := 1, slots := 6, locals := 140 }
set_option maxRecDepth 100000 in
set_option maxHeartbeats 4000000 in
theorem cw_write (l : Launch) (G : gG) (q : Nat → Nat) (m : gM) (h : gN) (a1 : Int32) (a2 : Int32) (hok : o_h_write m a1 a2) : gMw l yL_write wsL_write rmw_write G shW q [0, 1, 2, 3, 132] m h [.ref (q 0), .int a1, .int a2, .ref (q 132)] ((f_h_write m a1 a2).2) (g_setN h 132 (vp_updL (h 132) 0 (Int32.toInt64 (f_h_write m a1 a2).1))) 0 := by
  intro sz
  refine g_metw (cc := cL_write) (maxL := 5) (ret := (some .int)) (own := RL) (hh := [(0, 10, 13, 13), (0, 10, 17, 15)]) (Qc := fun sz => gQw G shW q [0, 1, 2, 3, 132] ((f_h_write m a1 a2).2) (g_setN h 132 (vp_updL (h 132) 0 (Int32.toInt64 (f_h_write m a1 a2).1))) sz 0) (by decide) rfl rfl (Nat.le_of_ble_eq_true rfl) (fun p e s m9 below meth c C hq hX htab hr => ?_)
  refine x_lv (lv' := [(0, .ref (q 0)), (1, .int a1), (2, .int a2), (3, .ref (q 132))]) [0, 1, 2, 3] rfl ?_
  refine x_aload_n C dL_write_0 rfl 3 rfl ?_
  refine x_iconst (v := (0 : Int32)) C dL_write_1 (by decide) ?_
  refine x_aload_n C dL_write_2 rfl 0 rfl ?_
  refine x_iload_n C dL_write_3 rfl 1 rfl ?_
  refine x_iload_n C dL_write_4 rfl 2 rfl ?_
  refine x_callWp (n := 2) (shc := shH) (rest := [.inr (.inr (.inr 1))]) C hq (by decide +kernel) rfl (by decide) (c_h_write l G q m h a1 a2 hok) (cwV 2 C.2.2.2.2.2.1 gL_write_X2_write rfl rfl rfl (by decide +kernel) ⟨Nat.le_of_ble_eq_true rfl, Nat.le_of_ble_eq_true rfl⟩) rfl rfl rfl rfl (Nat.le_of_ble_eq_true rfl) dL_write_5 (Nat.zero_le _) (Nat.zero_le _) (fun q1 h4 hq1 => ?_)
  refine x_lve (lv' := [(0, .ref (q1 0)), (1, .int a1), (2, .int a2), (3, .ref (q1 132))]) (by rw [h4 0 (Or.inl (by decide)), h4 132 (Or.inr (by decide))]) ?_
  refine x_i2l C dL_write_8 rfl ?_
  refine x_stk (st' := [.long (Int32.toInt64 (f_h_write m a1 a2).1), .int 0, .ref (q1 132)]) (by rw [h4 132 (Or.inr (by decide))]) ?_
  refine x_last (ν' := g_setN h 132 (vp_updL (h 132) 0 (Int32.toInt64 (f_h_write m a1 a2).1))) (n := 1) C hq1 132 rfl (by unfold vp_in; decide) rfl dL_write_9 ?_
  refine x_goto (tgt := 21) C dL_write_10 (by decide) ?_
  refine x_iconst (v := (0 : Int32)) C dL_write_21 (by decide) ?_
  refine x_wid (k := 1) (n := 6) (by decide) (by decide) ?_
  exact g_wret C hq1 (fun k hk => h4 k (by simp only [List.mem_cons, List.not_mem_nil, or_false] at hk; rcases hk with rfl | rfl | rfl | rfl | rfl <;> first | exact Or.inl (by decide) | exact Or.inr (by decide))) hr dL_write_22 rfl rfl rfl
set_option maxRecDepth 20000 in
theorem kw_write_IO : Cond.classLink RL 13 "java/lang/IndexOutOfBoundsException" ∈ wsL_write := by decide +kernel
set_option maxRecDepth 100000 in
set_option maxHeartbeats 4000000 in
theorem cw_write_IO (l : Launch) (hl9 : l.stackTraces = false) (G : gG) (q : Nat → Nat) (m : gM) (h : gN) (a1 : Int32) (a2 : Int32) (hok : ox_h_write m a1 a2) (hE : (fx_h_write m a1 a2) = "java/lang/IndexOutOfBoundsException") : gMw l yL_write wsL_write rmw_write G shW q [0, 1, 2, 3, 132] m h [.ref (q 0), .int a1, .int a2, .ref (q 132)] m h 1 := by
  intro sz
  refine g_metw (cc := cL_write) (maxL := 5) (ret := (some .int)) (own := RL) (hh := [(0, 10, 13, 13), (0, 10, 17, 15)]) (Qc := fun sz => gQw G shW q [0, 1, 2, 3, 132] m h sz 1) (by decide) rfl rfl (Nat.le_of_ble_eq_true rfl) (fun p e s m9 below meth c C hq hX htab hr => ?_)
  refine x_lv (lv' := [(0, .ref (q 0)), (1, .int a1), (2, .int a2), (3, .ref (q 132))]) [0, 1, 2, 3] rfl ?_
  refine x_aload_n C dL_write_0 rfl 3 rfl ?_
  refine x_iconst (v := (0 : Int32)) C dL_write_1 (by decide) ?_
  refine x_aload_n C dL_write_2 rfl 0 rfl ?_
  refine x_iload_n C dL_write_3 rfl 1 rfl ?_
  refine x_iload_n C dL_write_4 rfl 2 rfl ?_
  refine x_callWx (n := 2) (shc := shH) (rest := [.inr (.inr (.inr 1))]) (E := "java/lang/IndexOutOfBoundsException") C hq (by decide +kernel) rfl hX (hE ▸ cx_h_write l hl9 G q m h a1 a2 hok) (cwV 2 C.2.2.2.2.2.1 gL_write_X2_write rfl rfl rfl (by decide +kernel) ⟨Nat.le_of_ble_eq_true rfl, Nat.le_of_ble_eq_true rfl⟩) rfl rfl rfl rfl (Nat.le_of_ble_eq_true rfl) dL_write_5 (Nat.le_refl _) (Nat.le_refl _) [] ⟨0, 10, 13, 13⟩ [⟨0, 10, 17, 15⟩] htab (fun z hz => absurd hz List.not_mem_nil) (by decide) (by decide) kw_write_IO (by decide +kernel) (hpc := 13) rfl (fun q9 => ?_)
  refine x_astore (lv' := [(0, .ref (q 0)), (1, .int a1), (2, .int a2), (3, .ref (q 132)), (4, .ref q9)]) C dL_write_13 (by decide) [1, 2, 3, 4, 0] rfl ?_
  refine x_iconst (v := (1 : Int32)) C dL_write_15 (by decide) ?_
  exact g_wret C hq (fun _ _ => rfl) hr dL_write_16 rfl rfl rfl
set_option maxRecDepth 20000 in
theorem kw_write_IA : Cond.classLink RL 15 "java/lang/IllegalArgumentException" ∈ wsL_write := by decide +kernel
set_option maxRecDepth 100000 in
set_option maxHeartbeats 4000000 in
theorem cw_write_IA (l : Launch) (hl9 : l.stackTraces = false) (G : gG) (q : Nat → Nat) (m : gM) (h : gN) (a1 : Int32) (a2 : Int32) (hok : ox_h_write m a1 a2) (hE : (fx_h_write m a1 a2) = "java/lang/IllegalArgumentException") : gMw l yL_write wsL_write rmw_write G shW q [0, 1, 2, 3, 132] m h [.ref (q 0), .int a1, .int a2, .ref (q 132)] m h 2 := by
  intro sz
  refine g_metw (cc := cL_write) (maxL := 5) (ret := (some .int)) (own := RL) (hh := [(0, 10, 13, 13), (0, 10, 17, 15)]) (Qc := fun sz => gQw G shW q [0, 1, 2, 3, 132] m h sz 2) (by decide) rfl rfl (Nat.le_of_ble_eq_true rfl) (fun p e s m9 below meth c C hq hX htab hr => ?_)
  refine x_lv (lv' := [(0, .ref (q 0)), (1, .int a1), (2, .int a2), (3, .ref (q 132))]) [0, 1, 2, 3] rfl ?_
  refine x_aload_n C dL_write_0 rfl 3 rfl ?_
  refine x_iconst (v := (0 : Int32)) C dL_write_1 (by decide) ?_
  refine x_aload_n C dL_write_2 rfl 0 rfl ?_
  refine x_iload_n C dL_write_3 rfl 1 rfl ?_
  refine x_iload_n C dL_write_4 rfl 2 rfl ?_
  refine x_callWx (n := 2) (shc := shH) (rest := [.inr (.inr (.inr 1))]) (E := "java/lang/IllegalArgumentException") C hq (by decide +kernel) rfl hX (hE ▸ cx_h_write l hl9 G q m h a1 a2 hok) (cwV 2 C.2.2.2.2.2.1 gL_write_X2_write rfl rfl rfl (by decide +kernel) ⟨Nat.le_of_ble_eq_true rfl, Nat.le_of_ble_eq_true rfl⟩) rfl rfl rfl rfl (Nat.le_of_ble_eq_true rfl) dL_write_5 (Nat.le_refl _) (Nat.le_refl _) [⟨0, 10, 13, 13⟩] ⟨0, 10, 17, 15⟩ [] htab (fun z hz => by simp only [List.mem_cons, List.not_mem_nil, or_false] at hz; rcases hz with rfl <;> first | (exact ⟨by decide, "java/lang/IndexOutOfBoundsException", kw_write_IO, by decide +kernel⟩; done)) (by decide) (by decide) kw_write_IA (by decide +kernel) (hpc := 17) rfl (fun q9 => ?_)
  refine x_astore (lv' := [(0, .ref (q 0)), (1, .int a1), (2, .int a2), (3, .ref (q 132)), (4, .ref q9)]) C dL_write_17 (by decide) [1, 2, 3, 4, 0] rfl ?_
  refine x_iconst (v := (2 : Int32)) C dL_write_19 (by decide) ?_
  exact g_wret C hq (fun _ _ => rfl) hr dL_write_20 rfl rfl rfl

abbrev rmw_writeRow : Room := { frames := 7, cells := 1, slots := 6, locals := 141 }
set_option maxRecDepth 100000 in
set_option maxHeartbeats 4000000 in
theorem cw_writeRow (l : Launch) (G : gG) (q : Nat → Nat) (m : gM) (h : gN) (a1 : Int32) (a2 : Int32) (a3 : Int32) (hok : o_h_writeRow m a1 a2 a3) : gMw l yL_writeRow wsL_writeRow rmw_writeRow G shW q [0, 1, 2, 3, 132] m h [.ref (q 0), .int a1, .int a2, .int a3, .ref (q 132)] ((f_h_writeRow m a1 a2 a3).2) (g_setN h 132 (vp_updL (h 132) 0 (Int32.toInt64 (f_h_writeRow m a1 a2 a3).1))) 0 := by
  intro sz
  refine g_metw (cc := cL_writeRow) (maxL := 6) (ret := (some .int)) (own := RL) (hh := [(0, 12, 15, 13), (0, 12, 19, 15)]) (Qc := fun sz => gQw G shW q [0, 1, 2, 3, 132] ((f_h_writeRow m a1 a2 a3).2) (g_setN h 132 (vp_updL (h 132) 0 (Int32.toInt64 (f_h_writeRow m a1 a2 a3).1))) sz 0) (by decide) rfl rfl (Nat.le_of_ble_eq_true rfl) (fun p e s m9 below meth c C hq hX htab hr => ?_)
  refine x_lv (lv' := [(0, .ref (q 0)), (1, .int a1), (2, .int a2), (3, .int a3), (4, .ref (q 132))]) [0, 1, 2, 3, 4] rfl ?_
  refine x_aload C dL_writeRow_0 4 rfl ?_
  refine x_iconst (v := (0 : Int32)) C dL_writeRow_2 (by decide) ?_
  refine x_aload_n C dL_writeRow_3 rfl 0 rfl ?_
  refine x_iload_n C dL_writeRow_4 rfl 1 rfl ?_
  refine x_iload_n C dL_writeRow_5 rfl 2 rfl ?_
  refine x_iload_n C dL_writeRow_6 rfl 3 rfl ?_
  refine x_callWp (n := 3) (shc := shH) (rest := [.inr (.inr (.inr 1))]) C hq (by decide +kernel) rfl (by decide) (c_h_writeRow l G q m h a1 a2 a3 hok) (cwV 3 C.2.2.2.2.2.1 gL_writeRow_X2_writeRow rfl rfl rfl (by decide +kernel) ⟨Nat.le_of_ble_eq_true rfl, Nat.le_of_ble_eq_true rfl⟩) rfl rfl rfl rfl (Nat.le_of_ble_eq_true rfl) dL_writeRow_7 (Nat.zero_le _) (Nat.zero_le _) (fun q1 h4 hq1 => ?_)
  refine x_lve (lv' := [(0, .ref (q1 0)), (1, .int a1), (2, .int a2), (3, .int a3), (4, .ref (q1 132))]) (by rw [h4 0 (Or.inl (by decide)), h4 132 (Or.inr (by decide))]) ?_
  refine x_i2l C dL_writeRow_10 rfl ?_
  refine x_stk (st' := [.long (Int32.toInt64 (f_h_writeRow m a1 a2 a3).1), .int 0, .ref (q1 132)]) (by rw [h4 132 (Or.inr (by decide))]) ?_
  refine x_last (ν' := g_setN h 132 (vp_updL (h 132) 0 (Int32.toInt64 (f_h_writeRow m a1 a2 a3).1))) (n := 1) C hq1 132 rfl (by unfold vp_in; decide) rfl dL_writeRow_11 ?_
  refine x_goto (tgt := 23) C dL_writeRow_12 (by decide) ?_
  refine x_iconst (v := (0 : Int32)) C dL_writeRow_23 (by decide) ?_
  refine x_wid (k := 1) (n := 6) (by decide) (by decide) ?_
  exact g_wret C hq1 (fun k hk => h4 k (by simp only [List.mem_cons, List.not_mem_nil, or_false] at hk; rcases hk with rfl | rfl | rfl | rfl | rfl <;> first | exact Or.inl (by decide) | exact Or.inr (by decide))) hr dL_writeRow_24 rfl rfl rfl
set_option maxRecDepth 20000 in
theorem kw_writeRow_IO : Cond.classLink RL 13 "java/lang/IndexOutOfBoundsException" ∈ wsL_writeRow := by decide +kernel
set_option maxRecDepth 100000 in
set_option maxHeartbeats 4000000 in
theorem cw_writeRow_IO (l : Launch) (hl9 : l.stackTraces = false) (G : gG) (q : Nat → Nat) (m : gM) (h : gN) (a1 : Int32) (a2 : Int32) (a3 : Int32) (hok : ox_h_writeRow m a1 a2 a3) (hE : (fx_h_writeRow m a1 a2 a3) = "java/lang/IndexOutOfBoundsException") : gMw l yL_writeRow wsL_writeRow rmw_writeRow G shW q [0, 1, 2, 3, 132] m h [.ref (q 0), .int a1, .int a2, .int a3, .ref (q 132)] m h 1 := by
  intro sz
  refine g_metw (cc := cL_writeRow) (maxL := 6) (ret := (some .int)) (own := RL) (hh := [(0, 12, 15, 13), (0, 12, 19, 15)]) (Qc := fun sz => gQw G shW q [0, 1, 2, 3, 132] m h sz 1) (by decide) rfl rfl (Nat.le_of_ble_eq_true rfl) (fun p e s m9 below meth c C hq hX htab hr => ?_)
  refine x_lv (lv' := [(0, .ref (q 0)), (1, .int a1), (2, .int a2), (3, .int a3), (4, .ref (q 132))]) [0, 1, 2, 3, 4] rfl ?_
  refine x_aload C dL_writeRow_0 4 rfl ?_
  refine x_iconst (v := (0 : Int32)) C dL_writeRow_2 (by decide) ?_
  refine x_aload_n C dL_writeRow_3 rfl 0 rfl ?_
  refine x_iload_n C dL_writeRow_4 rfl 1 rfl ?_
  refine x_iload_n C dL_writeRow_5 rfl 2 rfl ?_
  refine x_iload_n C dL_writeRow_6 rfl 3 rfl ?_
  refine x_callWx (n := 3) (shc := shH) (rest := [.inr (.inr (.inr 1))]) (E := "java/lang/IndexOutOfBoundsException") C hq (by decide +kernel) rfl hX (hE ▸ cx_h_writeRow l hl9 G q m h a1 a2 a3 hok) (cwV 3 C.2.2.2.2.2.1 gL_writeRow_X2_writeRow rfl rfl rfl (by decide +kernel) ⟨Nat.le_of_ble_eq_true rfl, Nat.le_of_ble_eq_true rfl⟩) rfl rfl rfl rfl (Nat.le_of_ble_eq_true rfl) dL_writeRow_7 (Nat.le_refl _) (Nat.le_refl _) [] ⟨0, 12, 15, 13⟩ [⟨0, 12, 19, 15⟩] htab (fun z hz => absurd hz List.not_mem_nil) (by decide) (by decide) kw_writeRow_IO (by decide +kernel) (hpc := 15) rfl (fun q9 => ?_)
  refine x_astore (lv' := [(0, .ref (q 0)), (1, .int a1), (2, .int a2), (3, .int a3), (4, .ref (q 132)), (5, .ref q9)]) C dL_writeRow_15 (by decide) [1, 2, 3, 4, 5, 0] rfl ?_
  refine x_iconst (v := (1 : Int32)) C dL_writeRow_17 (by decide) ?_
  exact g_wret C hq (fun _ _ => rfl) hr dL_writeRow_18 rfl rfl rfl
set_option maxRecDepth 20000 in
theorem kw_writeRow_IA : Cond.classLink RL 15 "java/lang/IllegalArgumentException" ∈ wsL_writeRow := by decide +kernel
set_option maxRecDepth 100000 in
set_option maxHeartbeats 4000000 in
theorem cw_writeRow_IA (l : Launch) (hl9 : l.stackTraces = false) (G : gG) (q : Nat → Nat) (m : gM) (h : gN) (a1 : Int32) (a2 : Int32) (a3 : Int32) (hok : ox_h_writeRow m a1 a2 a3) (hE : (fx_h_writeRow m a1 a2 a3) = "java/lang/IllegalArgumentException") : gMw l yL_writeRow wsL_writeRow rmw_writeRow G shW q [0, 1, 2, 3, 132] m h [.ref (q 0), .int a1, .int a2, .int a3, .ref (q 132)] m h 2 := by
  intro sz
  refine g_metw (cc := cL_writeRow) (maxL := 6) (ret := (some .int)) (own := RL) (hh := [(0, 12, 15, 13), (0, 12, 19, 15)]) (Qc := fun sz => gQw G shW q [0, 1, 2, 3, 132] m h sz 2) (by decide) rfl rfl (Nat.le_of_ble_eq_true rfl) (fun p e s m9 below meth c C hq hX htab hr => ?_)
  refine x_lv (lv' := [(0, .ref (q 0)), (1, .int a1), (2, .int a2), (3, .int a3), (4, .ref (q 132))]) [0, 1, 2, 3, 4] rfl ?_
  refine x_aload C dL_writeRow_0 4 rfl ?_
  refine x_iconst (v := (0 : Int32)) C dL_writeRow_2 (by decide) ?_
  refine x_aload_n C dL_writeRow_3 rfl 0 rfl ?_
  refine x_iload_n C dL_writeRow_4 rfl 1 rfl ?_
  refine x_iload_n C dL_writeRow_5 rfl 2 rfl ?_
  refine x_iload_n C dL_writeRow_6 rfl 3 rfl ?_
  refine x_callWx (n := 3) (shc := shH) (rest := [.inr (.inr (.inr 1))]) (E := "java/lang/IllegalArgumentException") C hq (by decide +kernel) rfl hX (hE ▸ cx_h_writeRow l hl9 G q m h a1 a2 a3 hok) (cwV 3 C.2.2.2.2.2.1 gL_writeRow_X2_writeRow rfl rfl rfl (by decide +kernel) ⟨Nat.le_of_ble_eq_true rfl, Nat.le_of_ble_eq_true rfl⟩) rfl rfl rfl rfl (Nat.le_of_ble_eq_true rfl) dL_writeRow_7 (Nat.le_refl _) (Nat.le_refl _) [⟨0, 12, 15, 13⟩] ⟨0, 12, 19, 15⟩ [] htab (fun z hz => by simp only [List.mem_cons, List.not_mem_nil, or_false] at hz; rcases hz with rfl <;> first | (exact ⟨by decide, "java/lang/IndexOutOfBoundsException", kw_writeRow_IO, by decide +kernel⟩; done)) (by decide) (by decide) kw_writeRow_IA (by decide +kernel) (hpc := 19) rfl (fun q9 => ?_)
  refine x_astore (lv' := [(0, .ref (q 0)), (1, .int a1), (2, .int a2), (3, .int a3), (4, .ref (q 132)), (5, .ref q9)]) C dL_writeRow_19 (by decide) [1, 2, 3, 4, 5, 0] rfl ?_
  refine x_iconst (v := (2 : Int32)) C dL_writeRow_21 (by decide) ?_
  exact g_wret C hq (fun _ _ => rfl) hr dL_writeRow_22 rfl rfl rfl

abbrev rmw_trim : Room := { frames := 7, cells := 1, slots := 6, locals := 124 }
set_option maxRecDepth 100000 in
set_option maxHeartbeats 4000000 in
theorem cw_trim (l : Launch) (G : gG) (q : Nat → Nat) (m : gM) (h : gN) (a1 : Int32) (hok : o_h_trim m a1) : gMw l yL_trim wsL_trim rmw_trim G shW q [0, 1, 2, 3, 132] m h [.ref (q 0), .int a1, .ref (q 132)] ((f_h_trim m a1).2) (g_setN h 132 (vp_updL (h 132) 0 (Int32.toInt64 (f_h_trim m a1).1))) 0 := by
  intro sz
  refine g_metw (cc := cL_trim) (maxL := 4) (ret := (some .int)) (own := RL) (hh := [(0, 9, 12, 13)]) (Qc := fun sz => gQw G shW q [0, 1, 2, 3, 132] ((f_h_trim m a1).2) (g_setN h 132 (vp_updL (h 132) 0 (Int32.toInt64 (f_h_trim m a1).1))) sz 0) (by decide) rfl rfl (Nat.le_of_ble_eq_true rfl) (fun p e s m9 below meth c C hq hX htab hr => ?_)
  refine x_lv (lv' := [(0, .ref (q 0)), (1, .int a1), (2, .ref (q 132))]) [0, 1, 2] rfl ?_
  refine x_aload_n C dL_trim_0 rfl 2 rfl ?_
  refine x_iconst (v := (0 : Int32)) C dL_trim_1 (by decide) ?_
  refine x_aload_n C dL_trim_2 rfl 0 rfl ?_
  refine x_iload_n C dL_trim_3 rfl 1 rfl ?_
  refine x_callWp (n := 1) (shc := shH) (rest := [.inr (.inr (.inr 1))]) C hq (by decide +kernel) rfl (by decide) (c_h_trim l G q m h a1 hok) (cwV 1 C.2.2.2.2.2.1 gL_trim_X2_trim rfl rfl rfl (by decide +kernel) ⟨Nat.le_of_ble_eq_true rfl, Nat.le_of_ble_eq_true rfl⟩) rfl rfl rfl rfl (Nat.le_of_ble_eq_true rfl) dL_trim_4 (Nat.zero_le _) (Nat.zero_le _) (fun q1 h4 hq1 => ?_)
  refine x_lve (lv' := [(0, .ref (q1 0)), (1, .int a1), (2, .ref (q1 132))]) (by rw [h4 0 (Or.inl (by decide)), h4 132 (Or.inr (by decide))]) ?_
  refine x_i2l C dL_trim_7 rfl ?_
  refine x_stk (st' := [.long (Int32.toInt64 (f_h_trim m a1).1), .int 0, .ref (q1 132)]) (by rw [h4 132 (Or.inr (by decide))]) ?_
  refine x_last (ν' := g_setN h 132 (vp_updL (h 132) 0 (Int32.toInt64 (f_h_trim m a1).1))) (n := 1) C hq1 132 rfl (by unfold vp_in; decide) rfl dL_trim_8 ?_
  refine x_goto (tgt := 15) C dL_trim_9 (by decide) ?_
  refine x_iconst (v := (0 : Int32)) C dL_trim_15 (by decide) ?_
  refine x_wid (k := 1) (n := 6) (by decide) (by decide) ?_
  exact g_wret C hq1 (fun k hk => h4 k (by simp only [List.mem_cons, List.not_mem_nil, or_false] at hk; rcases hk with rfl | rfl | rfl | rfl | rfl <;> first | exact Or.inl (by decide) | exact Or.inr (by decide))) hr dL_trim_16 rfl rfl rfl
set_option maxRecDepth 20000 in
theorem kw_trim_IO : Cond.classLink RL 13 "java/lang/IndexOutOfBoundsException" ∈ wsL_trim := by decide +kernel
set_option maxRecDepth 100000 in
set_option maxHeartbeats 4000000 in
theorem cw_trim_IO (l : Launch) (hl9 : l.stackTraces = false) (G : gG) (q : Nat → Nat) (m : gM) (h : gN) (a1 : Int32) (hok : ox_h_trim m a1) (hE : (fx_h_trim m a1) = "java/lang/IndexOutOfBoundsException") : gMw l yL_trim wsL_trim rmw_trim G shW q [0, 1, 2, 3, 132] m h [.ref (q 0), .int a1, .ref (q 132)] m h 1 := by
  intro sz
  refine g_metw (cc := cL_trim) (maxL := 4) (ret := (some .int)) (own := RL) (hh := [(0, 9, 12, 13)]) (Qc := fun sz => gQw G shW q [0, 1, 2, 3, 132] m h sz 1) (by decide) rfl rfl (Nat.le_of_ble_eq_true rfl) (fun p e s m9 below meth c C hq hX htab hr => ?_)
  refine x_lv (lv' := [(0, .ref (q 0)), (1, .int a1), (2, .ref (q 132))]) [0, 1, 2] rfl ?_
  refine x_aload_n C dL_trim_0 rfl 2 rfl ?_
  refine x_iconst (v := (0 : Int32)) C dL_trim_1 (by decide) ?_
  refine x_aload_n C dL_trim_2 rfl 0 rfl ?_
  refine x_iload_n C dL_trim_3 rfl 1 rfl ?_
  refine x_callWx (n := 1) (shc := shH) (rest := [.inr (.inr (.inr 1))]) (E := "java/lang/IndexOutOfBoundsException") C hq (by decide +kernel) rfl hX (hE ▸ cx_h_trim l hl9 G q m h a1 hok) (cwV 1 C.2.2.2.2.2.1 gL_trim_X2_trim rfl rfl rfl (by decide +kernel) ⟨Nat.le_of_ble_eq_true rfl, Nat.le_of_ble_eq_true rfl⟩) rfl rfl rfl rfl (Nat.le_of_ble_eq_true rfl) dL_trim_4 (Nat.le_refl _) (Nat.le_refl _) [] ⟨0, 9, 12, 13⟩ [] htab (fun z hz => absurd hz List.not_mem_nil) (by decide) (by decide) kw_trim_IO (by decide +kernel) (hpc := 12) rfl (fun q9 => ?_)
  refine x_astore_n (lv' := [(0, .ref (q 0)), (1, .int a1), (2, .ref (q 132)), (3, .ref q9)]) C dL_trim_12 rfl (by decide) [1, 2, 3, 0] rfl ?_
  refine x_iconst (v := (1 : Int32)) C dL_trim_13 (by decide) ?_
  exact g_wret C hq (fun _ _ => rfl) hr dL_trim_14 rfl rfl rfl

abbrev rmw_hint : Room := { frames := 7, cells := 1, slots := 6, locals := 125 }
set_option maxRecDepth 100000 in
set_option maxHeartbeats 4000000 in
theorem cw_hint (l : Launch) (G : gG) (q : Nat → Nat) (m : gM) (h : gN) (a1 : Int32) (a2 : Int32) (hok : o_h_hint m a1 a2) : gMw l yL_hint wsL_hint rmw_hint G shW q [0, 1, 2, 3, 132] m h [.ref (q 0), .int a1, .int a2, .ref (q 132)] ((f_h_hint m a1 a2).2) (g_setN h 132 (vp_updL (h 132) 0 (Int32.toInt64 (f_h_hint m a1 a2).1))) 0 := by
  intro sz
  refine g_metw (cc := cL_hint) (maxL := 5) (ret := (some .int)) (own := RL) (hh := [(0, 10, 13, 13), (0, 10, 17, 15), (0, 10, 21, 28)]) (Qc := fun sz => gQw G shW q [0, 1, 2, 3, 132] ((f_h_hint m a1 a2).2) (g_setN h 132 (vp_updL (h 132) 0 (Int32.toInt64 (f_h_hint m a1 a2).1))) sz 0) (by decide) rfl rfl (Nat.le_of_ble_eq_true rfl) (fun p e s m9 below meth c C hq hX htab hr => ?_)
  refine x_lv (lv' := [(0, .ref (q 0)), (1, .int a1), (2, .int a2), (3, .ref (q 132))]) [0, 1, 2, 3] rfl ?_
  refine x_aload_n C dL_hint_0 rfl 3 rfl ?_
  refine x_iconst (v := (0 : Int32)) C dL_hint_1 (by decide) ?_
  refine x_aload_n C dL_hint_2 rfl 0 rfl ?_
  refine x_iload_n C dL_hint_3 rfl 1 rfl ?_
  refine x_iload_n C dL_hint_4 rfl 2 rfl ?_
  refine x_callWp (n := 2) (shc := shH) (rest := [.inr (.inr (.inr 1))]) C hq (by decide +kernel) rfl (by decide) (c_h_hint l G q m h a1 a2 hok) (cwV 2 C.2.2.2.2.2.1 gL_hint_X2_hint rfl rfl rfl (by decide +kernel) ⟨Nat.le_of_ble_eq_true rfl, Nat.le_of_ble_eq_true rfl⟩) rfl rfl rfl rfl (Nat.le_of_ble_eq_true rfl) dL_hint_5 (Nat.zero_le _) (Nat.zero_le _) (fun q1 h4 hq1 => ?_)
  refine x_lve (lv' := [(0, .ref (q1 0)), (1, .int a1), (2, .int a2), (3, .ref (q1 132))]) (by rw [h4 0 (Or.inl (by decide)), h4 132 (Or.inr (by decide))]) ?_
  refine x_i2l C dL_hint_8 rfl ?_
  refine x_stk (st' := [.long (Int32.toInt64 (f_h_hint m a1 a2).1), .int 0, .ref (q1 132)]) (by rw [h4 132 (Or.inr (by decide))]) ?_
  refine x_last (ν' := g_setN h 132 (vp_updL (h 132) 0 (Int32.toInt64 (f_h_hint m a1 a2).1))) (n := 1) C hq1 132 rfl (by unfold vp_in; decide) rfl dL_hint_9 ?_
  refine x_goto (tgt := 25) C dL_hint_10 (by decide) ?_
  refine x_iconst (v := (0 : Int32)) C dL_hint_25 (by decide) ?_
  refine x_wid (k := 1) (n := 6) (by decide) (by decide) ?_
  exact g_wret C hq1 (fun k hk => h4 k (by simp only [List.mem_cons, List.not_mem_nil, or_false] at hk; rcases hk with rfl | rfl | rfl | rfl | rfl <;> first | exact Or.inl (by decide) | exact Or.inr (by decide))) hr dL_hint_26 rfl rfl rfl
set_option maxRecDepth 20000 in
theorem kw_hint_IO : Cond.classLink RL 13 "java/lang/IndexOutOfBoundsException" ∈ wsL_hint := by decide +kernel
set_option maxRecDepth 100000 in
set_option maxHeartbeats 4000000 in
theorem cw_hint_IO (l : Launch) (hl9 : l.stackTraces = false) (G : gG) (q : Nat → Nat) (m : gM) (h : gN) (a1 : Int32) (a2 : Int32) (hok : ox_h_hint m a1 a2) (hE : (fx_h_hint m a1 a2) = "java/lang/IndexOutOfBoundsException") : gMw l yL_hint wsL_hint rmw_hint G shW q [0, 1, 2, 3, 132] m h [.ref (q 0), .int a1, .int a2, .ref (q 132)] m h 1 := by
  intro sz
  refine g_metw (cc := cL_hint) (maxL := 5) (ret := (some .int)) (own := RL) (hh := [(0, 10, 13, 13), (0, 10, 17, 15), (0, 10, 21, 28)]) (Qc := fun sz => gQw G shW q [0, 1, 2, 3, 132] m h sz 1) (by decide) rfl rfl (Nat.le_of_ble_eq_true rfl) (fun p e s m9 below meth c C hq hX htab hr => ?_)
  refine x_lv (lv' := [(0, .ref (q 0)), (1, .int a1), (2, .int a2), (3, .ref (q 132))]) [0, 1, 2, 3] rfl ?_
  refine x_aload_n C dL_hint_0 rfl 3 rfl ?_
  refine x_iconst (v := (0 : Int32)) C dL_hint_1 (by decide) ?_
  refine x_aload_n C dL_hint_2 rfl 0 rfl ?_
  refine x_iload_n C dL_hint_3 rfl 1 rfl ?_
  refine x_iload_n C dL_hint_4 rfl 2 rfl ?_
  refine x_callWx (n := 2) (shc := shH) (rest := [.inr (.inr (.inr 1))]) (E := "java/lang/IndexOutOfBoundsException") C hq (by decide +kernel) rfl hX (hE ▸ cx_h_hint l hl9 G q m h a1 a2 hok) (cwV 2 C.2.2.2.2.2.1 gL_hint_X2_hint rfl rfl rfl (by decide +kernel) ⟨Nat.le_of_ble_eq_true rfl, Nat.le_of_ble_eq_true rfl⟩) rfl rfl rfl rfl (Nat.le_of_ble_eq_true rfl) dL_hint_5 (Nat.le_refl _) (Nat.le_refl _) [] ⟨0, 10, 13, 13⟩ [⟨0, 10, 17, 15⟩, ⟨0, 10, 21, 28⟩] htab (fun z hz => absurd hz List.not_mem_nil) (by decide) (by decide) kw_hint_IO (by decide +kernel) (hpc := 13) rfl (fun q9 => ?_)
  refine x_astore (lv' := [(0, .ref (q 0)), (1, .int a1), (2, .int a2), (3, .ref (q 132)), (4, .ref q9)]) C dL_hint_13 (by decide) [1, 2, 3, 4, 0] rfl ?_
  refine x_iconst (v := (1 : Int32)) C dL_hint_15 (by decide) ?_
  exact g_wret C hq (fun _ _ => rfl) hr dL_hint_16 rfl rfl rfl
set_option maxRecDepth 20000 in
theorem kw_hint_IA : Cond.classLink RL 15 "java/lang/IllegalArgumentException" ∈ wsL_hint := by decide +kernel
set_option maxRecDepth 100000 in
set_option maxHeartbeats 4000000 in
theorem cw_hint_IA (l : Launch) (hl9 : l.stackTraces = false) (G : gG) (q : Nat → Nat) (m : gM) (h : gN) (a1 : Int32) (a2 : Int32) (hok : ox_h_hint m a1 a2) (hE : (fx_h_hint m a1 a2) = "java/lang/IllegalArgumentException") : gMw l yL_hint wsL_hint rmw_hint G shW q [0, 1, 2, 3, 132] m h [.ref (q 0), .int a1, .int a2, .ref (q 132)] m h 2 := by
  intro sz
  refine g_metw (cc := cL_hint) (maxL := 5) (ret := (some .int)) (own := RL) (hh := [(0, 10, 13, 13), (0, 10, 17, 15), (0, 10, 21, 28)]) (Qc := fun sz => gQw G shW q [0, 1, 2, 3, 132] m h sz 2) (by decide) rfl rfl (Nat.le_of_ble_eq_true rfl) (fun p e s m9 below meth c C hq hX htab hr => ?_)
  refine x_lv (lv' := [(0, .ref (q 0)), (1, .int a1), (2, .int a2), (3, .ref (q 132))]) [0, 1, 2, 3] rfl ?_
  refine x_aload_n C dL_hint_0 rfl 3 rfl ?_
  refine x_iconst (v := (0 : Int32)) C dL_hint_1 (by decide) ?_
  refine x_aload_n C dL_hint_2 rfl 0 rfl ?_
  refine x_iload_n C dL_hint_3 rfl 1 rfl ?_
  refine x_iload_n C dL_hint_4 rfl 2 rfl ?_
  refine x_callWx (n := 2) (shc := shH) (rest := [.inr (.inr (.inr 1))]) (E := "java/lang/IllegalArgumentException") C hq (by decide +kernel) rfl hX (hE ▸ cx_h_hint l hl9 G q m h a1 a2 hok) (cwV 2 C.2.2.2.2.2.1 gL_hint_X2_hint rfl rfl rfl (by decide +kernel) ⟨Nat.le_of_ble_eq_true rfl, Nat.le_of_ble_eq_true rfl⟩) rfl rfl rfl rfl (Nat.le_of_ble_eq_true rfl) dL_hint_5 (Nat.le_refl _) (Nat.le_refl _) [⟨0, 10, 13, 13⟩] ⟨0, 10, 17, 15⟩ [⟨0, 10, 21, 28⟩] htab (fun z hz => by simp only [List.mem_cons, List.not_mem_nil, or_false] at hz; rcases hz with rfl <;> first | (exact ⟨by decide, "java/lang/IndexOutOfBoundsException", kw_hint_IO, by decide +kernel⟩; done)) (by decide) (by decide) kw_hint_IA (by decide +kernel) (hpc := 17) rfl (fun q9 => ?_)
  refine x_astore (lv' := [(0, .ref (q 0)), (1, .int a1), (2, .int a2), (3, .ref (q 132)), (4, .ref q9)]) C dL_hint_17 (by decide) [1, 2, 3, 4, 0] rfl ?_
  refine x_iconst (v := (2 : Int32)) C dL_hint_19 (by decide) ?_
  exact g_wret C hq (fun _ _ => rfl) hr dL_hint_20 rfl rfl rfl
set_option maxRecDepth 20000 in
theorem kw_hint_IS : Cond.classLink RL 28 "java/lang/IllegalStateException" ∈ wsL_hint := by decide +kernel
set_option maxRecDepth 100000 in
set_option maxHeartbeats 4000000 in
theorem cw_hint_IS (l : Launch) (hl9 : l.stackTraces = false) (G : gG) (q : Nat → Nat) (m : gM) (h : gN) (a1 : Int32) (a2 : Int32) (hok : ox_h_hint m a1 a2) (hE : (fx_h_hint m a1 a2) = "java/lang/IllegalStateException") : gMw l yL_hint wsL_hint rmw_hint G shW q [0, 1, 2, 3, 132] m h [.ref (q 0), .int a1, .int a2, .ref (q 132)] m h 3 := by
  intro sz
  refine g_metw (cc := cL_hint) (maxL := 5) (ret := (some .int)) (own := RL) (hh := [(0, 10, 13, 13), (0, 10, 17, 15), (0, 10, 21, 28)]) (Qc := fun sz => gQw G shW q [0, 1, 2, 3, 132] m h sz 3) (by decide) rfl rfl (Nat.le_of_ble_eq_true rfl) (fun p e s m9 below meth c C hq hX htab hr => ?_)
  refine x_lv (lv' := [(0, .ref (q 0)), (1, .int a1), (2, .int a2), (3, .ref (q 132))]) [0, 1, 2, 3] rfl ?_
  refine x_aload_n C dL_hint_0 rfl 3 rfl ?_
  refine x_iconst (v := (0 : Int32)) C dL_hint_1 (by decide) ?_
  refine x_aload_n C dL_hint_2 rfl 0 rfl ?_
  refine x_iload_n C dL_hint_3 rfl 1 rfl ?_
  refine x_iload_n C dL_hint_4 rfl 2 rfl ?_
  refine x_callWx (n := 2) (shc := shH) (rest := [.inr (.inr (.inr 1))]) (E := "java/lang/IllegalStateException") C hq (by decide +kernel) rfl hX (hE ▸ cx_h_hint l hl9 G q m h a1 a2 hok) (cwV 2 C.2.2.2.2.2.1 gL_hint_X2_hint rfl rfl rfl (by decide +kernel) ⟨Nat.le_of_ble_eq_true rfl, Nat.le_of_ble_eq_true rfl⟩) rfl rfl rfl rfl (Nat.le_of_ble_eq_true rfl) dL_hint_5 (Nat.le_refl _) (Nat.le_refl _) [⟨0, 10, 13, 13⟩, ⟨0, 10, 17, 15⟩] ⟨0, 10, 21, 28⟩ [] htab (fun z hz => by simp only [List.mem_cons, List.not_mem_nil, or_false] at hz; rcases hz with rfl | rfl <;> first | (exact ⟨by decide, "java/lang/IndexOutOfBoundsException", kw_hint_IO, by decide +kernel⟩; done) | (exact ⟨by decide, "java/lang/IllegalArgumentException", kw_hint_IA, by decide +kernel⟩; done)) (by decide) (by decide) kw_hint_IS (by decide +kernel) (hpc := 21) rfl (fun q9 => ?_)
  refine x_astore (lv' := [(0, .ref (q 0)), (1, .int a1), (2, .int a2), (3, .ref (q 132)), (4, .ref q9)]) C dL_hint_21 (by decide) [1, 2, 3, 4, 0] rfl ?_
  refine x_iconst (v := (3 : Int32)) C dL_hint_23 (by decide) ?_
  exact g_wret C hq (fun _ _ => rfl) hr dL_hint_24 rfl rfl rfl

abbrev rmw_collect : Room := { frames := 7, cells := 1, slots := 6, locals := 124 }
set_option maxRecDepth 100000 in
set_option maxHeartbeats 4000000 in
theorem cw_collect (l : Launch) (G : gG) (q : Nat → Nat) (m : gM) (h : gN) (a1 : Int32) (hok : o_h_collect m a1) : gMw l yL_collect wsL_collect rmw_collect G shW q [0, 1, 2, 3, 132] m h [.ref (q 0), .int a1, .ref (q 132)] ((f_h_collect m a1).2) (g_setN h 132 (vp_updL (h 132) 0 (Int32.toInt64 (f_h_collect m a1).1))) 0 := by
  intro sz
  refine g_metw (cc := cL_collect) (maxL := 4) (ret := (some .int)) (own := RL) (hh := [(0, 9, 12, 13), (0, 9, 15, 28)]) (Qc := fun sz => gQw G shW q [0, 1, 2, 3, 132] ((f_h_collect m a1).2) (g_setN h 132 (vp_updL (h 132) 0 (Int32.toInt64 (f_h_collect m a1).1))) sz 0) (by decide) rfl rfl (Nat.le_of_ble_eq_true rfl) (fun p e s m9 below meth c C hq hX htab hr => ?_)
  refine x_lv (lv' := [(0, .ref (q 0)), (1, .int a1), (2, .ref (q 132))]) [0, 1, 2] rfl ?_
  refine x_aload_n C dL_collect_0 rfl 2 rfl ?_
  refine x_iconst (v := (0 : Int32)) C dL_collect_1 (by decide) ?_
  refine x_aload_n C dL_collect_2 rfl 0 rfl ?_
  refine x_iload_n C dL_collect_3 rfl 1 rfl ?_
  refine x_callWp (n := 1) (shc := shH) (rest := [.inr (.inr (.inr 1))]) C hq (by decide +kernel) rfl (by decide) (c_h_collect l G q m h a1 hok) (cwV 1 C.2.2.2.2.2.1 gL_collect_X2_collect rfl rfl rfl (by decide +kernel) ⟨Nat.le_of_ble_eq_true rfl, Nat.le_of_ble_eq_true rfl⟩) rfl rfl rfl rfl (Nat.le_of_ble_eq_true rfl) dL_collect_4 (Nat.zero_le _) (Nat.zero_le _) (fun q1 h4 hq1 => ?_)
  refine x_lve (lv' := [(0, .ref (q1 0)), (1, .int a1), (2, .ref (q1 132))]) (by rw [h4 0 (Or.inl (by decide)), h4 132 (Or.inr (by decide))]) ?_
  refine x_i2l C dL_collect_7 rfl ?_
  refine x_stk (st' := [.long (Int32.toInt64 (f_h_collect m a1).1), .int 0, .ref (q1 132)]) (by rw [h4 132 (Or.inr (by decide))]) ?_
  refine x_last (ν' := g_setN h 132 (vp_updL (h 132) 0 (Int32.toInt64 (f_h_collect m a1).1))) (n := 1) C hq1 132 rfl (by unfold vp_in; decide) rfl dL_collect_8 ?_
  refine x_goto (tgt := 18) C dL_collect_9 (by decide) ?_
  refine x_iconst (v := (0 : Int32)) C dL_collect_18 (by decide) ?_
  refine x_wid (k := 1) (n := 6) (by decide) (by decide) ?_
  exact g_wret C hq1 (fun k hk => h4 k (by simp only [List.mem_cons, List.not_mem_nil, or_false] at hk; rcases hk with rfl | rfl | rfl | rfl | rfl <;> first | exact Or.inl (by decide) | exact Or.inr (by decide))) hr dL_collect_19 rfl rfl rfl
set_option maxRecDepth 20000 in
theorem kw_collect_IO : Cond.classLink RL 13 "java/lang/IndexOutOfBoundsException" ∈ wsL_collect := by decide +kernel
set_option maxRecDepth 100000 in
set_option maxHeartbeats 4000000 in
theorem cw_collect_IO (l : Launch) (hl9 : l.stackTraces = false) (G : gG) (q : Nat → Nat) (m : gM) (h : gN) (a1 : Int32) (hok : ox_h_collect m a1) (hE : (fx_h_collect m a1) = "java/lang/IndexOutOfBoundsException") : gMw l yL_collect wsL_collect rmw_collect G shW q [0, 1, 2, 3, 132] m h [.ref (q 0), .int a1, .ref (q 132)] m h 1 := by
  intro sz
  refine g_metw (cc := cL_collect) (maxL := 4) (ret := (some .int)) (own := RL) (hh := [(0, 9, 12, 13), (0, 9, 15, 28)]) (Qc := fun sz => gQw G shW q [0, 1, 2, 3, 132] m h sz 1) (by decide) rfl rfl (Nat.le_of_ble_eq_true rfl) (fun p e s m9 below meth c C hq hX htab hr => ?_)
  refine x_lv (lv' := [(0, .ref (q 0)), (1, .int a1), (2, .ref (q 132))]) [0, 1, 2] rfl ?_
  refine x_aload_n C dL_collect_0 rfl 2 rfl ?_
  refine x_iconst (v := (0 : Int32)) C dL_collect_1 (by decide) ?_
  refine x_aload_n C dL_collect_2 rfl 0 rfl ?_
  refine x_iload_n C dL_collect_3 rfl 1 rfl ?_
  refine x_callWx (n := 1) (shc := shH) (rest := [.inr (.inr (.inr 1))]) (E := "java/lang/IndexOutOfBoundsException") C hq (by decide +kernel) rfl hX (hE ▸ cx_h_collect l hl9 G q m h a1 hok) (cwV 1 C.2.2.2.2.2.1 gL_collect_X2_collect rfl rfl rfl (by decide +kernel) ⟨Nat.le_of_ble_eq_true rfl, Nat.le_of_ble_eq_true rfl⟩) rfl rfl rfl rfl (Nat.le_of_ble_eq_true rfl) dL_collect_4 (Nat.le_refl _) (Nat.le_refl _) [] ⟨0, 9, 12, 13⟩ [⟨0, 9, 15, 28⟩] htab (fun z hz => absurd hz List.not_mem_nil) (by decide) (by decide) kw_collect_IO (by decide +kernel) (hpc := 12) rfl (fun q9 => ?_)
  refine x_astore_n (lv' := [(0, .ref (q 0)), (1, .int a1), (2, .ref (q 132)), (3, .ref q9)]) C dL_collect_12 rfl (by decide) [1, 2, 3, 0] rfl ?_
  refine x_iconst (v := (1 : Int32)) C dL_collect_13 (by decide) ?_
  exact g_wret C hq (fun _ _ => rfl) hr dL_collect_14 rfl rfl rfl
set_option maxRecDepth 20000 in
theorem kw_collect_IS : Cond.classLink RL 28 "java/lang/IllegalStateException" ∈ wsL_collect := by decide +kernel
set_option maxRecDepth 100000 in
set_option maxHeartbeats 4000000 in
theorem cw_collect_IS (l : Launch) (hl9 : l.stackTraces = false) (G : gG) (q : Nat → Nat) (m : gM) (h : gN) (a1 : Int32) (hok : ox_h_collect m a1) (hE : (fx_h_collect m a1) = "java/lang/IllegalStateException") : gMw l yL_collect wsL_collect rmw_collect G shW q [0, 1, 2, 3, 132] m h [.ref (q 0), .int a1, .ref (q 132)] m h 2 := by
  intro sz
  refine g_metw (cc := cL_collect) (maxL := 4) (ret := (some .int)) (own := RL) (hh := [(0, 9, 12, 13), (0, 9, 15, 28)]) (Qc := fun sz => gQw G shW q [0, 1, 2, 3, 132] m h sz 2) (by decide) rfl rfl (Nat.le_of_ble_eq_true rfl) (fun p e s m9 below meth c C hq hX htab hr => ?_)
  refine x_lv (lv' := [(0, .ref (q 0)), (1, .int a1), (2, .ref (q 132))]) [0, 1, 2] rfl ?_
  refine x_aload_n C dL_collect_0 rfl 2 rfl ?_
  refine x_iconst (v := (0 : Int32)) C dL_collect_1 (by decide) ?_
  refine x_aload_n C dL_collect_2 rfl 0 rfl ?_
  refine x_iload_n C dL_collect_3 rfl 1 rfl ?_
  refine x_callWx (n := 1) (shc := shH) (rest := [.inr (.inr (.inr 1))]) (E := "java/lang/IllegalStateException") C hq (by decide +kernel) rfl hX (hE ▸ cx_h_collect l hl9 G q m h a1 hok) (cwV 1 C.2.2.2.2.2.1 gL_collect_X2_collect rfl rfl rfl (by decide +kernel) ⟨Nat.le_of_ble_eq_true rfl, Nat.le_of_ble_eq_true rfl⟩) rfl rfl rfl rfl (Nat.le_of_ble_eq_true rfl) dL_collect_4 (Nat.le_refl _) (Nat.le_refl _) [⟨0, 9, 12, 13⟩] ⟨0, 9, 15, 28⟩ [] htab (fun z hz => by simp only [List.mem_cons, List.not_mem_nil, or_false] at hz; rcases hz with rfl <;> first | (exact ⟨by decide, "java/lang/IndexOutOfBoundsException", kw_collect_IO, by decide +kernel⟩; done)) (by decide) (by decide) kw_collect_IS (by decide +kernel) (hpc := 15) rfl (fun q9 => ?_)
  refine x_astore_n (lv' := [(0, .ref (q 0)), (1, .int a1), (2, .ref (q 132)), (3, .ref q9)]) C dL_collect_15 rfl (by decide) [1, 2, 3, 0] rfl ?_
  refine x_iconst (v := (2 : Int32)) C dL_collect_16 (by decide) ?_
  exact g_wret C hq (fun _ _ => rfl) hr dL_collect_17 rfl rfl rfl

abbrev rmw_tidy : Room := { frames := 7, cells := 1, slots := 6, locals := 123 }
set_option maxRecDepth 100000 in
set_option maxHeartbeats 4000000 in
theorem cw_tidy (l : Launch) (G : gG) (q : Nat → Nat) (m : gM) (h : gN) (a1 : Int32) (hok : o_h_tidy m a1) : gMw l yL_tidy wsL_tidy rmw_tidy G shW q [0, 1, 2, 3, 132] m h [.ref (q 0), .int a1, .ref (q 132)] ((f_h_tidy m a1).2) (g_setN h 132 (vp_updL (h 132) 0 (Int32.toInt64 (f_h_tidy m a1).1))) 0 := by
  intro sz
  refine g_metw (cc := cL_tidy) (maxL := 4) (ret := (some .int)) (own := RL) (hh := [(0, 9, 12, 15)]) (Qc := fun sz => gQw G shW q [0, 1, 2, 3, 132] ((f_h_tidy m a1).2) (g_setN h 132 (vp_updL (h 132) 0 (Int32.toInt64 (f_h_tidy m a1).1))) sz 0) (by decide) rfl rfl (Nat.le_of_ble_eq_true rfl) (fun p e s m9 below meth c C hq hX htab hr => ?_)
  refine x_lv (lv' := [(0, .ref (q 0)), (1, .int a1), (2, .ref (q 132))]) [0, 1, 2] rfl ?_
  refine x_aload_n C dL_tidy_0 rfl 2 rfl ?_
  refine x_iconst (v := (0 : Int32)) C dL_tidy_1 (by decide) ?_
  refine x_aload_n C dL_tidy_2 rfl 0 rfl ?_
  refine x_iload_n C dL_tidy_3 rfl 1 rfl ?_
  refine x_callWp (n := 1) (shc := shH) (rest := [.inr (.inr (.inr 1))]) C hq (by decide +kernel) rfl (by decide) (c_h_tidy l G q m h a1 hok) (cwV 1 C.2.2.2.2.2.1 gL_tidy_X2_tidy rfl rfl rfl (by decide +kernel) ⟨Nat.le_of_ble_eq_true rfl, Nat.le_of_ble_eq_true rfl⟩) rfl rfl rfl rfl (Nat.le_of_ble_eq_true rfl) dL_tidy_4 (Nat.zero_le _) (Nat.zero_le _) (fun q1 h4 hq1 => ?_)
  refine x_lve (lv' := [(0, .ref (q1 0)), (1, .int a1), (2, .ref (q1 132))]) (by rw [h4 0 (Or.inl (by decide)), h4 132 (Or.inr (by decide))]) ?_
  refine x_i2l C dL_tidy_7 rfl ?_
  refine x_stk (st' := [.long (Int32.toInt64 (f_h_tidy m a1).1), .int 0, .ref (q1 132)]) (by rw [h4 132 (Or.inr (by decide))]) ?_
  refine x_last (ν' := g_setN h 132 (vp_updL (h 132) 0 (Int32.toInt64 (f_h_tidy m a1).1))) (n := 1) C hq1 132 rfl (by unfold vp_in; decide) rfl dL_tidy_8 ?_
  refine x_goto (tgt := 15) C dL_tidy_9 (by decide) ?_
  refine x_iconst (v := (0 : Int32)) C dL_tidy_15 (by decide) ?_
  refine x_wid (k := 1) (n := 6) (by decide) (by decide) ?_
  exact g_wret C hq1 (fun k hk => h4 k (by simp only [List.mem_cons, List.not_mem_nil, or_false] at hk; rcases hk with rfl | rfl | rfl | rfl | rfl <;> first | exact Or.inl (by decide) | exact Or.inr (by decide))) hr dL_tidy_16 rfl rfl rfl
set_option maxRecDepth 20000 in
theorem kw_tidy_IA : Cond.classLink RL 15 "java/lang/IllegalArgumentException" ∈ wsL_tidy := by decide +kernel
set_option maxRecDepth 100000 in
set_option maxHeartbeats 4000000 in
theorem cw_tidy_IA (l : Launch) (hl9 : l.stackTraces = false) (G : gG) (q : Nat → Nat) (m : gM) (h : gN) (a1 : Int32) (hok : ox_h_tidy m a1) (hE : (fx_h_tidy m a1) = "java/lang/IllegalArgumentException") : gMw l yL_tidy wsL_tidy rmw_tidy G shW q [0, 1, 2, 3, 132] m h [.ref (q 0), .int a1, .ref (q 132)] m h 1 := by
  intro sz
  refine g_metw (cc := cL_tidy) (maxL := 4) (ret := (some .int)) (own := RL) (hh := [(0, 9, 12, 15)]) (Qc := fun sz => gQw G shW q [0, 1, 2, 3, 132] m h sz 1) (by decide) rfl rfl (Nat.le_of_ble_eq_true rfl) (fun p e s m9 below meth c C hq hX htab hr => ?_)
  refine x_lv (lv' := [(0, .ref (q 0)), (1, .int a1), (2, .ref (q 132))]) [0, 1, 2] rfl ?_
  refine x_aload_n C dL_tidy_0 rfl 2 rfl ?_
  refine x_iconst (v := (0 : Int32)) C dL_tidy_1 (by decide) ?_
  refine x_aload_n C dL_tidy_2 rfl 0 rfl ?_
  refine x_iload_n C dL_tidy_3 rfl 1 rfl ?_
  refine x_callWx (n := 1) (shc := shH) (rest := [.inr (.inr (.inr 1))]) (E := "java/lang/IllegalArgumentException") C hq (by decide +kernel) rfl hX (hE ▸ cx_h_tidy l hl9 G q m h a1 hok) (cwV 1 C.2.2.2.2.2.1 gL_tidy_X2_tidy rfl rfl rfl (by decide +kernel) ⟨Nat.le_of_ble_eq_true rfl, Nat.le_of_ble_eq_true rfl⟩) rfl rfl rfl rfl (Nat.le_of_ble_eq_true rfl) dL_tidy_4 (Nat.le_refl _) (Nat.le_refl _) [] ⟨0, 9, 12, 15⟩ [] htab (fun z hz => absurd hz List.not_mem_nil) (by decide) (by decide) kw_tidy_IA (by decide +kernel) (hpc := 12) rfl (fun q9 => ?_)
  refine x_astore_n (lv' := [(0, .ref (q 0)), (1, .int a1), (2, .ref (q 132)), (3, .ref q9)]) C dL_tidy_12 rfl (by decide) [1, 2, 3, 0] rfl ?_
  refine x_iconst (v := (1 : Int32)) C dL_tidy_13 (by decide) ?_
  exact g_wret C hq (fun _ _ => rfl) hr dL_tidy_14 rfl rfl rfl

abbrev rmw_set : Room := { frames := 7, cells := 1, slots := 6, locals := 125 }
set_option maxRecDepth 100000 in
set_option maxHeartbeats 4000000 in
theorem cw_set (l : Launch) (G : gG) (q : Nat → Nat) (m : gM) (h : gN) (a1 : Int32) (a2 : Int32) (hok : o_h_set m a1 a2) : gMw l yL_set wsL_set rmw_set G shW q [0, 1, 2, 3, 132] m h [.ref (q 0), .int a1, .int a2, .ref (q 132)] ((f_h_set m a1 a2).2) (g_setN h 132 (vp_updL (h 132) 0 (Int32.toInt64 (f_h_set m a1 a2).1))) 0 := by
  intro sz
  refine g_metw (cc := cL_set) (maxL := 5) (ret := (some .int)) (own := RL) (hh := [(0, 10, 13, 13), (0, 10, 17, 15)]) (Qc := fun sz => gQw G shW q [0, 1, 2, 3, 132] ((f_h_set m a1 a2).2) (g_setN h 132 (vp_updL (h 132) 0 (Int32.toInt64 (f_h_set m a1 a2).1))) sz 0) (by decide) rfl rfl (Nat.le_of_ble_eq_true rfl) (fun p e s m9 below meth c C hq hX htab hr => ?_)
  refine x_lv (lv' := [(0, .ref (q 0)), (1, .int a1), (2, .int a2), (3, .ref (q 132))]) [0, 1, 2, 3] rfl ?_
  refine x_aload_n C dL_set_0 rfl 3 rfl ?_
  refine x_iconst (v := (0 : Int32)) C dL_set_1 (by decide) ?_
  refine x_aload_n C dL_set_2 rfl 0 rfl ?_
  refine x_iload_n C dL_set_3 rfl 1 rfl ?_
  refine x_iload_n C dL_set_4 rfl 2 rfl ?_
  refine x_callWp (n := 2) (shc := shH) (rest := [.inr (.inr (.inr 1))]) C hq (by decide +kernel) rfl (by decide) (c_h_set l G q m h a1 a2 hok) (cwV 2 C.2.2.2.2.2.1 gL_set_X2_set rfl rfl rfl (by decide +kernel) ⟨Nat.le_of_ble_eq_true rfl, Nat.le_of_ble_eq_true rfl⟩) rfl rfl rfl rfl (Nat.le_of_ble_eq_true rfl) dL_set_5 (Nat.zero_le _) (Nat.zero_le _) (fun q1 h4 hq1 => ?_)
  refine x_lve (lv' := [(0, .ref (q1 0)), (1, .int a1), (2, .int a2), (3, .ref (q1 132))]) (by rw [h4 0 (Or.inl (by decide)), h4 132 (Or.inr (by decide))]) ?_
  refine x_i2l C dL_set_8 rfl ?_
  refine x_stk (st' := [.long (Int32.toInt64 (f_h_set m a1 a2).1), .int 0, .ref (q1 132)]) (by rw [h4 132 (Or.inr (by decide))]) ?_
  refine x_last (ν' := g_setN h 132 (vp_updL (h 132) 0 (Int32.toInt64 (f_h_set m a1 a2).1))) (n := 1) C hq1 132 rfl (by unfold vp_in; decide) rfl dL_set_9 ?_
  refine x_goto (tgt := 21) C dL_set_10 (by decide) ?_
  refine x_iconst (v := (0 : Int32)) C dL_set_21 (by decide) ?_
  refine x_wid (k := 1) (n := 6) (by decide) (by decide) ?_
  exact g_wret C hq1 (fun k hk => h4 k (by simp only [List.mem_cons, List.not_mem_nil, or_false] at hk; rcases hk with rfl | rfl | rfl | rfl | rfl <;> first | exact Or.inl (by decide) | exact Or.inr (by decide))) hr dL_set_22 rfl rfl rfl
set_option maxRecDepth 20000 in
theorem kw_set_IO : Cond.classLink RL 13 "java/lang/IndexOutOfBoundsException" ∈ wsL_set := by decide +kernel
set_option maxRecDepth 100000 in
set_option maxHeartbeats 4000000 in
theorem cw_set_IO (l : Launch) (hl9 : l.stackTraces = false) (G : gG) (q : Nat → Nat) (m : gM) (h : gN) (a1 : Int32) (a2 : Int32) (hok : ox_h_set m a1 a2) (hE : (fx_h_set m a1 a2) = "java/lang/IndexOutOfBoundsException") : gMw l yL_set wsL_set rmw_set G shW q [0, 1, 2, 3, 132] m h [.ref (q 0), .int a1, .int a2, .ref (q 132)] m h 1 := by
  intro sz
  refine g_metw (cc := cL_set) (maxL := 5) (ret := (some .int)) (own := RL) (hh := [(0, 10, 13, 13), (0, 10, 17, 15)]) (Qc := fun sz => gQw G shW q [0, 1, 2, 3, 132] m h sz 1) (by decide) rfl rfl (Nat.le_of_ble_eq_true rfl) (fun p e s m9 below meth c C hq hX htab hr => ?_)
  refine x_lv (lv' := [(0, .ref (q 0)), (1, .int a1), (2, .int a2), (3, .ref (q 132))]) [0, 1, 2, 3] rfl ?_
  refine x_aload_n C dL_set_0 rfl 3 rfl ?_
  refine x_iconst (v := (0 : Int32)) C dL_set_1 (by decide) ?_
  refine x_aload_n C dL_set_2 rfl 0 rfl ?_
  refine x_iload_n C dL_set_3 rfl 1 rfl ?_
  refine x_iload_n C dL_set_4 rfl 2 rfl ?_
  refine x_callWx (n := 2) (shc := shH) (rest := [.inr (.inr (.inr 1))]) (E := "java/lang/IndexOutOfBoundsException") C hq (by decide +kernel) rfl hX (hE ▸ cx_h_set l hl9 G q m h a1 a2 hok) (cwV 2 C.2.2.2.2.2.1 gL_set_X2_set rfl rfl rfl (by decide +kernel) ⟨Nat.le_of_ble_eq_true rfl, Nat.le_of_ble_eq_true rfl⟩) rfl rfl rfl rfl (Nat.le_of_ble_eq_true rfl) dL_set_5 (Nat.le_refl _) (Nat.le_refl _) [] ⟨0, 10, 13, 13⟩ [⟨0, 10, 17, 15⟩] htab (fun z hz => absurd hz List.not_mem_nil) (by decide) (by decide) kw_set_IO (by decide +kernel) (hpc := 13) rfl (fun q9 => ?_)
  refine x_astore (lv' := [(0, .ref (q 0)), (1, .int a1), (2, .int a2), (3, .ref (q 132)), (4, .ref q9)]) C dL_set_13 (by decide) [1, 2, 3, 4, 0] rfl ?_
  refine x_iconst (v := (1 : Int32)) C dL_set_15 (by decide) ?_
  exact g_wret C hq (fun _ _ => rfl) hr dL_set_16 rfl rfl rfl
set_option maxRecDepth 20000 in
theorem kw_set_IA : Cond.classLink RL 15 "java/lang/IllegalArgumentException" ∈ wsL_set := by decide +kernel
set_option maxRecDepth 100000 in
set_option maxHeartbeats 4000000 in
theorem cw_set_IA (l : Launch) (hl9 : l.stackTraces = false) (G : gG) (q : Nat → Nat) (m : gM) (h : gN) (a1 : Int32) (a2 : Int32) (hok : ox_h_set m a1 a2) (hE : (fx_h_set m a1 a2) = "java/lang/IllegalArgumentException") : gMw l yL_set wsL_set rmw_set G shW q [0, 1, 2, 3, 132] m h [.ref (q 0), .int a1, .int a2, .ref (q 132)] m h 2 := by
  intro sz
  refine g_metw (cc := cL_set) (maxL := 5) (ret := (some .int)) (own := RL) (hh := [(0, 10, 13, 13), (0, 10, 17, 15)]) (Qc := fun sz => gQw G shW q [0, 1, 2, 3, 132] m h sz 2) (by decide) rfl rfl (Nat.le_of_ble_eq_true rfl) (fun p e s m9 below meth c C hq hX htab hr => ?_)
  refine x_lv (lv' := [(0, .ref (q 0)), (1, .int a1), (2, .int a2), (3, .ref (q 132))]) [0, 1, 2, 3] rfl ?_
  refine x_aload_n C dL_set_0 rfl 3 rfl ?_
  refine x_iconst (v := (0 : Int32)) C dL_set_1 (by decide) ?_
  refine x_aload_n C dL_set_2 rfl 0 rfl ?_
  refine x_iload_n C dL_set_3 rfl 1 rfl ?_
  refine x_iload_n C dL_set_4 rfl 2 rfl ?_
  refine x_callWx (n := 2) (shc := shH) (rest := [.inr (.inr (.inr 1))]) (E := "java/lang/IllegalArgumentException") C hq (by decide +kernel) rfl hX (hE ▸ cx_h_set l hl9 G q m h a1 a2 hok) (cwV 2 C.2.2.2.2.2.1 gL_set_X2_set rfl rfl rfl (by decide +kernel) ⟨Nat.le_of_ble_eq_true rfl, Nat.le_of_ble_eq_true rfl⟩) rfl rfl rfl rfl (Nat.le_of_ble_eq_true rfl) dL_set_5 (Nat.le_refl _) (Nat.le_refl _) [⟨0, 10, 13, 13⟩] ⟨0, 10, 17, 15⟩ [] htab (fun z hz => by simp only [List.mem_cons, List.not_mem_nil, or_false] at hz; rcases hz with rfl <;> first | (exact ⟨by decide, "java/lang/IndexOutOfBoundsException", kw_set_IO, by decide +kernel⟩; done)) (by decide) (by decide) kw_set_IA (by decide +kernel) (hpc := 17) rfl (fun q9 => ?_)
  refine x_astore (lv' := [(0, .ref (q 0)), (1, .int a1), (2, .int a2), (3, .ref (q 132)), (4, .ref q9)]) C dL_set_17 (by decide) [1, 2, 3, 4, 0] rfl ?_
  refine x_iconst (v := (2 : Int32)) C dL_set_19 (by decide) ?_
  exact g_wret C hq (fun _ _ => rfl) hr dL_set_20 rfl rfl rfl

abbrev rmw_append : Room := { frames := 7, cells := 1, slots := 6, locals := 103 }
set_option maxRecDepth 100000 in
set_option maxHeartbeats 4000000 in
theorem cw_append (l : Launch) (G : gG) (q : Nat → Nat) (m : gM) (h : gN) (a1 : Int32) (hok : o_h_append m a1) : gMw l yL_append wsL_append rmw_append G shW q [0, 1, 2, 3, 132] m h [.ref (q 0), .int a1, .ref (q 132)] ((f_h_append m a1).2) (g_setN h 132 (vp_updL (h 132) 0 (Int32.toInt64 (f_h_append m a1).1))) 0 := by
  intro sz
  refine g_metw (cc := cL_append) (maxL := 4) (ret := (some .int)) (own := RL) (hh := [(0, 9, 12, 15), (0, 9, 15, 28)]) (Qc := fun sz => gQw G shW q [0, 1, 2, 3, 132] ((f_h_append m a1).2) (g_setN h 132 (vp_updL (h 132) 0 (Int32.toInt64 (f_h_append m a1).1))) sz 0) (by decide) rfl rfl (Nat.le_of_ble_eq_true rfl) (fun p e s m9 below meth c C hq hX htab hr => ?_)
  refine x_lv (lv' := [(0, .ref (q 0)), (1, .int a1), (2, .ref (q 132))]) [0, 1, 2] rfl ?_
  refine x_aload_n C dL_append_0 rfl 2 rfl ?_
  refine x_iconst (v := (0 : Int32)) C dL_append_1 (by decide) ?_
  refine x_aload_n C dL_append_2 rfl 0 rfl ?_
  refine x_iload_n C dL_append_3 rfl 1 rfl ?_
  refine x_callWi (n := 1) (shc := shH) (rest := [.inr (.inr (.inr 1))]) C hq (by decide +kernel) rfl (c_h_append l G q m h a1 hok) (cwV 1 C.2.2.2.2.2.1 gL_append_X2_append rfl rfl rfl (by decide +kernel) ⟨Nat.le_of_ble_eq_true rfl, Nat.le_of_ble_eq_true rfl⟩) rfl rfl rfl rfl (Nat.le_of_ble_eq_true rfl) dL_append_4 (Nat.zero_le _) (Nat.zero_le _) (fun q1 h4 hq1 => ?_)
  refine x_lve (lv' := [(0, .ref (q1 0)), (1, .int a1), (2, .ref (q1 132))]) (by rw [h4 0, h4 132]) ?_
  refine x_i2l C dL_append_7 rfl ?_
  refine x_stk (st' := [.long (Int32.toInt64 (f_h_append m a1).1), .int 0, .ref (q1 132)]) (by rw [h4 132]) ?_
  refine x_last (ν' := g_setN h 132 (vp_updL (h 132) 0 (Int32.toInt64 (f_h_append m a1).1))) (n := 1) C hq1 132 rfl (by unfold vp_in; decide) rfl dL_append_8 ?_
  refine x_goto (tgt := 18) C dL_append_9 (by decide) ?_
  refine x_iconst (v := (0 : Int32)) C dL_append_18 (by decide) ?_
  refine x_wid (k := 1) (n := 6) (by decide) (by decide) ?_
  exact g_wret C hq1 (fun k _ => h4 k) hr dL_append_19 rfl rfl rfl
set_option maxRecDepth 20000 in
theorem kw_append_IA : Cond.classLink RL 15 "java/lang/IllegalArgumentException" ∈ wsL_append := by decide +kernel
set_option maxRecDepth 100000 in
set_option maxHeartbeats 4000000 in
theorem cw_append_IA (l : Launch) (hl9 : l.stackTraces = false) (G : gG) (q : Nat → Nat) (m : gM) (h : gN) (a1 : Int32) (hok : ox_h_append m a1) (hE : (fx_h_append m a1) = "java/lang/IllegalArgumentException") : gMw l yL_append wsL_append rmw_append G shW q [0, 1, 2, 3, 132] m h [.ref (q 0), .int a1, .ref (q 132)] m h 1 := by
  intro sz
  refine g_metw (cc := cL_append) (maxL := 4) (ret := (some .int)) (own := RL) (hh := [(0, 9, 12, 15), (0, 9, 15, 28)]) (Qc := fun sz => gQw G shW q [0, 1, 2, 3, 132] m h sz 1) (by decide) rfl rfl (Nat.le_of_ble_eq_true rfl) (fun p e s m9 below meth c C hq hX htab hr => ?_)
  refine x_lv (lv' := [(0, .ref (q 0)), (1, .int a1), (2, .ref (q 132))]) [0, 1, 2] rfl ?_
  refine x_aload_n C dL_append_0 rfl 2 rfl ?_
  refine x_iconst (v := (0 : Int32)) C dL_append_1 (by decide) ?_
  refine x_aload_n C dL_append_2 rfl 0 rfl ?_
  refine x_iload_n C dL_append_3 rfl 1 rfl ?_
  refine x_callWx (n := 1) (shc := shH) (rest := [.inr (.inr (.inr 1))]) (E := "java/lang/IllegalArgumentException") C hq (by decide +kernel) rfl hX (hE ▸ cx_h_append l hl9 G q m h a1 hok) (cwV 1 C.2.2.2.2.2.1 gL_append_X2_append rfl rfl rfl (by decide +kernel) ⟨Nat.le_of_ble_eq_true rfl, Nat.le_of_ble_eq_true rfl⟩) rfl rfl rfl rfl (Nat.le_of_ble_eq_true rfl) dL_append_4 (Nat.le_refl _) (Nat.le_refl _) [] ⟨0, 9, 12, 15⟩ [⟨0, 9, 15, 28⟩] htab (fun z hz => absurd hz List.not_mem_nil) (by decide) (by decide) kw_append_IA (by decide +kernel) (hpc := 12) rfl (fun q9 => ?_)
  refine x_astore_n (lv' := [(0, .ref (q 0)), (1, .int a1), (2, .ref (q 132)), (3, .ref q9)]) C dL_append_12 rfl (by decide) [1, 2, 3, 0] rfl ?_
  refine x_iconst (v := (1 : Int32)) C dL_append_13 (by decide) ?_
  exact g_wret C hq (fun _ _ => rfl) hr dL_append_14 rfl rfl rfl
set_option maxRecDepth 20000 in
theorem kw_append_IS : Cond.classLink RL 28 "java/lang/IllegalStateException" ∈ wsL_append := by decide +kernel
set_option maxRecDepth 100000 in
set_option maxHeartbeats 4000000 in
theorem cw_append_IS (l : Launch) (hl9 : l.stackTraces = false) (G : gG) (q : Nat → Nat) (m : gM) (h : gN) (a1 : Int32) (hok : ox_h_append m a1) (hE : (fx_h_append m a1) = "java/lang/IllegalStateException") : gMw l yL_append wsL_append rmw_append G shW q [0, 1, 2, 3, 132] m h [.ref (q 0), .int a1, .ref (q 132)] m h 2 := by
  intro sz
  refine g_metw (cc := cL_append) (maxL := 4) (ret := (some .int)) (own := RL) (hh := [(0, 9, 12, 15), (0, 9, 15, 28)]) (Qc := fun sz => gQw G shW q [0, 1, 2, 3, 132] m h sz 2) (by decide) rfl rfl (Nat.le_of_ble_eq_true rfl) (fun p e s m9 below meth c C hq hX htab hr => ?_)
  refine x_lv (lv' := [(0, .ref (q 0)), (1, .int a1), (2, .ref (q 132))]) [0, 1, 2] rfl ?_
  refine x_aload_n C dL_append_0 rfl 2 rfl ?_
  refine x_iconst (v := (0 : Int32)) C dL_append_1 (by decide) ?_
  refine x_aload_n C dL_append_2 rfl 0 rfl ?_
  refine x_iload_n C dL_append_3 rfl 1 rfl ?_
  refine x_callWx (n := 1) (shc := shH) (rest := [.inr (.inr (.inr 1))]) (E := "java/lang/IllegalStateException") C hq (by decide +kernel) rfl hX (hE ▸ cx_h_append l hl9 G q m h a1 hok) (cwV 1 C.2.2.2.2.2.1 gL_append_X2_append rfl rfl rfl (by decide +kernel) ⟨Nat.le_of_ble_eq_true rfl, Nat.le_of_ble_eq_true rfl⟩) rfl rfl rfl rfl (Nat.le_of_ble_eq_true rfl) dL_append_4 (Nat.le_refl _) (Nat.le_refl _) [⟨0, 9, 12, 15⟩] ⟨0, 9, 15, 28⟩ [] htab (fun z hz => by simp only [List.mem_cons, List.not_mem_nil, or_false] at hz; rcases hz with rfl <;> first | (exact ⟨by decide, "java/lang/IllegalArgumentException", kw_append_IA, by decide +kernel⟩; done)) (by decide) (by decide) kw_append_IS (by decide +kernel) (hpc := 15) rfl (fun q9 => ?_)
  refine x_astore_n (lv' := [(0, .ref (q 0)), (1, .int a1), (2, .ref (q 132)), (3, .ref q9)]) C dL_append_15 rfl (by decide) [1, 2, 3, 0] rfl ?_
  refine x_iconst (v := (2 : Int32)) C dL_append_16 (by decide) ?_
  exact g_wret C hq (fun _ _ => rfl) hr dL_append_17 rfl rfl rfl

abbrev rmw_writeAll : Room := { frames := 7, cells := 1, slots := 6, locals := 140 }
set_option maxRecDepth 100000 in
set_option maxHeartbeats 4000000 in
theorem cw_writeAll (l : Launch) (G : gG) (q : Nat → Nat) (m : gM) (h : gN) (hok : o_h_writeAll m) : gMw l yL_writeAll wsL_writeAll rmw_writeAll G shW q [0, 1, 2, 3, 132] m h [.ref (q 0), .ref (q 132)] ((f_h_writeAll m).2) (g_setN h 132 (vp_updL (h 132) 0 (Int32.toInt64 (f_h_writeAll m).1))) 0 := by
  intro sz
  refine g_metw (cc := cL_writeAll) (maxL := 3) (ret := (some .int)) (own := RL) (hh := [(0, 8, 11, 15)]) (Qc := fun sz => gQw G shW q [0, 1, 2, 3, 132] ((f_h_writeAll m).2) (g_setN h 132 (vp_updL (h 132) 0 (Int32.toInt64 (f_h_writeAll m).1))) sz 0) (by decide) rfl rfl (Nat.le_of_ble_eq_true rfl) (fun p e s m9 below meth c C hq hX htab hr => ?_)
  refine x_lv (lv' := [(0, .ref (q 0)), (1, .ref (q 132))]) [0, 1] rfl ?_
  refine x_aload_n C dL_writeAll_0 rfl 1 rfl ?_
  refine x_iconst (v := (0 : Int32)) C dL_writeAll_1 (by decide) ?_
  refine x_aload_n C dL_writeAll_2 rfl 0 rfl ?_
  refine x_callWp (n := 0) (shc := shH) (rest := [.inr (.inr (.inr 1))]) C hq (by decide +kernel) rfl (by decide) (c_h_writeAll l G q m h hok) (cwV 0 C.2.2.2.2.2.1 gL_writeAll_X2_writeAll rfl rfl rfl (by decide +kernel) ⟨Nat.le_of_ble_eq_true rfl, Nat.le_of_ble_eq_true rfl⟩) rfl rfl rfl rfl (Nat.le_of_ble_eq_true rfl) dL_writeAll_3 (Nat.zero_le _) (Nat.zero_le _) (fun q1 h4 hq1 => ?_)
  refine x_lve (lv' := [(0, .ref (q1 0)), (1, .ref (q1 132))]) (by rw [h4 0 (Or.inl (by decide)), h4 132 (Or.inr (by decide))]) ?_
  refine x_i2l C dL_writeAll_6 rfl ?_
  refine x_stk (st' := [.long (Int32.toInt64 (f_h_writeAll m).1), .int 0, .ref (q1 132)]) (by rw [h4 132 (Or.inr (by decide))]) ?_
  refine x_last (ν' := g_setN h 132 (vp_updL (h 132) 0 (Int32.toInt64 (f_h_writeAll m).1))) (n := 1) C hq1 132 rfl (by unfold vp_in; decide) rfl dL_writeAll_7 ?_
  refine x_goto (tgt := 14) C dL_writeAll_8 (by decide) ?_
  refine x_iconst (v := (0 : Int32)) C dL_writeAll_14 (by decide) ?_
  refine x_wid (k := 1) (n := 6) (by decide) (by decide) ?_
  exact g_wret C hq1 (fun k hk => h4 k (by simp only [List.mem_cons, List.not_mem_nil, or_false] at hk; rcases hk with rfl | rfl | rfl | rfl | rfl <;> first | exact Or.inl (by decide) | exact Or.inr (by decide))) hr dL_writeAll_15 rfl rfl rfl
set_option maxRecDepth 20000 in
theorem kw_writeAll_IA : Cond.classLink RL 15 "java/lang/IllegalArgumentException" ∈ wsL_writeAll := by decide +kernel
set_option maxRecDepth 100000 in
set_option maxHeartbeats 4000000 in
theorem cw_writeAll_IA (l : Launch) (hl9 : l.stackTraces = false) (G : gG) (q : Nat → Nat) (m : gM) (h : gN) (hok : ox_h_writeAll m) (hE : (fx_h_writeAll m).1 = "java/lang/IllegalArgumentException") : gMw l yL_writeAll wsL_writeAll rmw_writeAll G shW q [0, 1, 2, 3, 132] m h [.ref (q 0), .ref (q 132)] ((fx_h_writeAll m).2) h 1 := by
  intro sz
  refine g_metw (cc := cL_writeAll) (maxL := 3) (ret := (some .int)) (own := RL) (hh := [(0, 8, 11, 15)]) (Qc := fun sz => gQw G shW q [0, 1, 2, 3, 132] ((fx_h_writeAll m).2) h sz 1) (by decide) rfl rfl (Nat.le_of_ble_eq_true rfl) (fun p e s m9 below meth c C hq hX htab hr => ?_)
  refine x_lv (lv' := [(0, .ref (q 0)), (1, .ref (q 132))]) [0, 1] rfl ?_
  refine x_aload_n C dL_writeAll_0 rfl 1 rfl ?_
  refine x_iconst (v := (0 : Int32)) C dL_writeAll_1 (by decide) ?_
  refine x_aload_n C dL_writeAll_2 rfl 0 rfl ?_
  refine x_callWx (n := 0) (shc := shH) (rest := [.inr (.inr (.inr 1))]) (E := "java/lang/IllegalArgumentException") C hq (by decide +kernel) rfl hX (hE ▸ cx_h_writeAll l hl9 G q m h hok) (cwV 0 C.2.2.2.2.2.1 gL_writeAll_X2_writeAll rfl rfl rfl (by decide +kernel) ⟨Nat.le_of_ble_eq_true rfl, Nat.le_of_ble_eq_true rfl⟩) rfl rfl rfl rfl (Nat.le_of_ble_eq_true rfl) dL_writeAll_3 (Nat.le_refl _) (Nat.le_refl _) [] ⟨0, 8, 11, 15⟩ [] htab (fun z hz => absurd hz List.not_mem_nil) (by decide) (by decide) kw_writeAll_IA (by decide +kernel) (hpc := 11) rfl (fun q9 => ?_)
  refine x_astore_n (lv' := [(0, .ref (q 0)), (1, .ref (q 132)), (2, .ref q9)]) C dL_writeAll_11 rfl (by decide) [1, 2, 0] rfl ?_
  refine x_iconst (v := (1 : Int32)) C dL_writeAll_12 (by decide) ?_
  exact g_wret C hq (fun _ _ => rfl) hr dL_writeAll_13 rfl rfl rfl

abbrev rmw_undo : Room := { frames := 7, cells := 1, slots := 6, locals := 103 }
set_option maxRecDepth 100000 in
set_option maxHeartbeats 4000000 in
theorem cw_undo (l : Launch) (G : gG) (q : Nat → Nat) (m : gM) (h : gN) (hok : o_h_undo m) : gMw l yL_undo wsL_undo rmw_undo G shW q [0, 1, 2, 3, 132] m h [.ref (q 0), .ref (q 132)] ((f_h_undo m).2) (g_setN h 132 (vp_updL (h 132) 0 (Int32.toInt64 (f_h_undo m).1))) 0 := by
  intro sz
  refine g_metw (cc := cL_undo) (maxL := 3) (ret := (some .int)) (own := RL) (hh := [(0, 8, 11, 28)]) (Qc := fun sz => gQw G shW q [0, 1, 2, 3, 132] ((f_h_undo m).2) (g_setN h 132 (vp_updL (h 132) 0 (Int32.toInt64 (f_h_undo m).1))) sz 0) (by decide) rfl rfl (Nat.le_of_ble_eq_true rfl) (fun p e s m9 below meth c C hq hX htab hr => ?_)
  refine x_lv (lv' := [(0, .ref (q 0)), (1, .ref (q 132))]) [0, 1] rfl ?_
  refine x_aload_n C dL_undo_0 rfl 1 rfl ?_
  refine x_iconst (v := (0 : Int32)) C dL_undo_1 (by decide) ?_
  refine x_aload_n C dL_undo_2 rfl 0 rfl ?_
  refine x_callWp (n := 0) (shc := shH) (rest := [.inr (.inr (.inr 1))]) C hq (by decide +kernel) rfl (by decide) (c_h_undo l G q m h hok) (cwV 0 C.2.2.2.2.2.1 gL_undo_X2_undo rfl rfl rfl (by decide +kernel) ⟨Nat.le_of_ble_eq_true rfl, Nat.le_of_ble_eq_true rfl⟩) rfl rfl rfl rfl (Nat.le_of_ble_eq_true rfl) dL_undo_3 (Nat.zero_le _) (Nat.zero_le _) (fun q1 h4 hq1 => ?_)
  refine x_lve (lv' := [(0, .ref (q1 0)), (1, .ref (q1 132))]) (by rw [h4 0 (Or.inl (by decide)), h4 132 (Or.inr (by decide))]) ?_
  refine x_i2l C dL_undo_6 rfl ?_
  refine x_stk (st' := [.long (Int32.toInt64 (f_h_undo m).1), .int 0, .ref (q1 132)]) (by rw [h4 132 (Or.inr (by decide))]) ?_
  refine x_last (ν' := g_setN h 132 (vp_updL (h 132) 0 (Int32.toInt64 (f_h_undo m).1))) (n := 1) C hq1 132 rfl (by unfold vp_in; decide) rfl dL_undo_7 ?_
  refine x_goto (tgt := 14) C dL_undo_8 (by decide) ?_
  refine x_iconst (v := (0 : Int32)) C dL_undo_14 (by decide) ?_
  refine x_wid (k := 1) (n := 6) (by decide) (by decide) ?_
  exact g_wret C hq1 (fun k hk => h4 k (by simp only [List.mem_cons, List.not_mem_nil, or_false] at hk; rcases hk with rfl | rfl | rfl | rfl | rfl <;> first | exact Or.inl (by decide) | exact Or.inr (by decide))) hr dL_undo_15 rfl rfl rfl
set_option maxRecDepth 20000 in
theorem kw_undo_IS : Cond.classLink RL 28 "java/lang/IllegalStateException" ∈ wsL_undo := by decide +kernel
set_option maxRecDepth 100000 in
set_option maxHeartbeats 4000000 in
theorem cw_undo_IS (l : Launch) (hl9 : l.stackTraces = false) (G : gG) (q : Nat → Nat) (m : gM) (h : gN) (hok : ox_h_undo m) (hE : (fx_h_undo m) = "java/lang/IllegalStateException") : gMw l yL_undo wsL_undo rmw_undo G shW q [0, 1, 2, 3, 132] m h [.ref (q 0), .ref (q 132)] m h 1 := by
  intro sz
  refine g_metw (cc := cL_undo) (maxL := 3) (ret := (some .int)) (own := RL) (hh := [(0, 8, 11, 28)]) (Qc := fun sz => gQw G shW q [0, 1, 2, 3, 132] m h sz 1) (by decide) rfl rfl (Nat.le_of_ble_eq_true rfl) (fun p e s m9 below meth c C hq hX htab hr => ?_)
  refine x_lv (lv' := [(0, .ref (q 0)), (1, .ref (q 132))]) [0, 1] rfl ?_
  refine x_aload_n C dL_undo_0 rfl 1 rfl ?_
  refine x_iconst (v := (0 : Int32)) C dL_undo_1 (by decide) ?_
  refine x_aload_n C dL_undo_2 rfl 0 rfl ?_
  refine x_callWx (n := 0) (shc := shH) (rest := [.inr (.inr (.inr 1))]) (E := "java/lang/IllegalStateException") C hq (by decide +kernel) rfl hX (hE ▸ cx_h_undo l hl9 G q m h hok) (cwV 0 C.2.2.2.2.2.1 gL_undo_X2_undo rfl rfl rfl (by decide +kernel) ⟨Nat.le_of_ble_eq_true rfl, Nat.le_of_ble_eq_true rfl⟩) rfl rfl rfl rfl (Nat.le_of_ble_eq_true rfl) dL_undo_3 (Nat.le_refl _) (Nat.le_refl _) [] ⟨0, 8, 11, 28⟩ [] htab (fun z hz => absurd hz List.not_mem_nil) (by decide) (by decide) kw_undo_IS (by decide +kernel) (hpc := 11) rfl (fun q9 => ?_)
  refine x_astore_n (lv' := [(0, .ref (q 0)), (1, .ref (q 132)), (2, .ref q9)]) C dL_undo_11 rfl (by decide) [1, 2, 0] rfl ?_
  refine x_iconst (v := (1 : Int32)) C dL_undo_12 (by decide) ?_
  exact g_wret C hq (fun _ _ => rfl) hr dL_undo_13 rfl rfl rfl

abbrev rmw_page : Room := { frames := 7, cells := 1, slots := 6, locals := 104 }
set_option maxRecDepth 100000 in
set_option maxHeartbeats 4000000 in
theorem cw_page (l : Launch) (G : gG) (q : Nat → Nat) (m : gM) (h : gN) (a1 : Int32) (a2 : Int32) (hok : o_h_page m a1 a2) : gMw l yL_page wsL_page rmw_page G shW q [0, 1, 2, 3, 132] m h [.ref (q 0), .int a1, .int a2, .ref (q 132)] m (g_setN h 132 (vp_updL (h 132) 0 (Int32.toInt64 (f_h_page m a1 a2)))) 0 := by
  intro sz
  refine g_metw (cc := cL_page) (maxL := 5) (ret := (some .int)) (own := RL) (hh := [(0, 10, 13, 13), (0, 10, 17, 15)]) (Qc := fun sz => gQw G shW q [0, 1, 2, 3, 132] m (g_setN h 132 (vp_updL (h 132) 0 (Int32.toInt64 (f_h_page m a1 a2)))) sz 0) (by decide) rfl rfl (Nat.le_of_ble_eq_true rfl) (fun p e s m9 below meth c C hq hX htab hr => ?_)
  refine x_lv (lv' := [(0, .ref (q 0)), (1, .int a1), (2, .int a2), (3, .ref (q 132))]) [0, 1, 2, 3] rfl ?_
  refine x_aload_n C dL_page_0 rfl 3 rfl ?_
  refine x_iconst (v := (0 : Int32)) C dL_page_1 (by decide) ?_
  refine x_aload_n C dL_page_2 rfl 0 rfl ?_
  refine x_iload_n C dL_page_3 rfl 1 rfl ?_
  refine x_iload_n C dL_page_4 rfl 2 rfl ?_
  refine x_callWi (n := 2) (shc := shH) (rest := [.inr (.inr (.inr 1))]) C hq (by decide +kernel) rfl (c_h_page l G q m h a1 a2 hok) (cwV 2 C.2.2.2.2.2.1 gL_page_X2_page rfl rfl rfl (by decide +kernel) ⟨Nat.le_of_ble_eq_true rfl, Nat.le_of_ble_eq_true rfl⟩) rfl rfl rfl rfl (Nat.le_of_ble_eq_true rfl) dL_page_5 (Nat.zero_le _) (Nat.zero_le _) (fun q1 h4 hq1 => ?_)
  refine x_lve (lv' := [(0, .ref (q1 0)), (1, .int a1), (2, .int a2), (3, .ref (q1 132))]) (by rw [h4 0, h4 132]) ?_
  refine x_i2l C dL_page_8 rfl ?_
  refine x_stk (st' := [.long (Int32.toInt64 (f_h_page m a1 a2)), .int 0, .ref (q1 132)]) (by rw [h4 132]) ?_
  refine x_last (ν' := g_setN h 132 (vp_updL (h 132) 0 (Int32.toInt64 (f_h_page m a1 a2)))) (n := 1) C hq1 132 rfl (by unfold vp_in; decide) rfl dL_page_9 ?_
  refine x_goto (tgt := 21) C dL_page_10 (by decide) ?_
  refine x_iconst (v := (0 : Int32)) C dL_page_21 (by decide) ?_
  refine x_wid (k := 1) (n := 6) (by decide) (by decide) ?_
  exact g_wret C hq1 (fun k _ => h4 k) hr dL_page_22 rfl rfl rfl
set_option maxRecDepth 20000 in
theorem kw_page_IO : Cond.classLink RL 13 "java/lang/IndexOutOfBoundsException" ∈ wsL_page := by decide +kernel
set_option maxRecDepth 100000 in
set_option maxHeartbeats 4000000 in
theorem cw_page_IO (l : Launch) (hl9 : l.stackTraces = false) (G : gG) (q : Nat → Nat) (m : gM) (h : gN) (a1 : Int32) (a2 : Int32) (hok : ox_h_page m a1 a2) (hE : (fx_h_page m a1 a2) = "java/lang/IndexOutOfBoundsException") : gMw l yL_page wsL_page rmw_page G shW q [0, 1, 2, 3, 132] m h [.ref (q 0), .int a1, .int a2, .ref (q 132)] m h 1 := by
  intro sz
  refine g_metw (cc := cL_page) (maxL := 5) (ret := (some .int)) (own := RL) (hh := [(0, 10, 13, 13), (0, 10, 17, 15)]) (Qc := fun sz => gQw G shW q [0, 1, 2, 3, 132] m h sz 1) (by decide) rfl rfl (Nat.le_of_ble_eq_true rfl) (fun p e s m9 below meth c C hq hX htab hr => ?_)
  refine x_lv (lv' := [(0, .ref (q 0)), (1, .int a1), (2, .int a2), (3, .ref (q 132))]) [0, 1, 2, 3] rfl ?_
  refine x_aload_n C dL_page_0 rfl 3 rfl ?_
  refine x_iconst (v := (0 : Int32)) C dL_page_1 (by decide) ?_
  refine x_aload_n C dL_page_2 rfl 0 rfl ?_
  refine x_iload_n C dL_page_3 rfl 1 rfl ?_
  refine x_iload_n C dL_page_4 rfl 2 rfl ?_
  refine x_callWx (n := 2) (shc := shH) (rest := [.inr (.inr (.inr 1))]) (E := "java/lang/IndexOutOfBoundsException") C hq (by decide +kernel) rfl hX (hE ▸ cx_h_page l hl9 G q m h a1 a2 hok) (cwV 2 C.2.2.2.2.2.1 gL_page_X2_page rfl rfl rfl (by decide +kernel) ⟨Nat.le_of_ble_eq_true rfl, Nat.le_of_ble_eq_true rfl⟩) rfl rfl rfl rfl (Nat.le_of_ble_eq_true rfl) dL_page_5 (Nat.le_refl _) (Nat.le_refl _) [] ⟨0, 10, 13, 13⟩ [⟨0, 10, 17, 15⟩] htab (fun z hz => absurd hz List.not_mem_nil) (by decide) (by decide) kw_page_IO (by decide +kernel) (hpc := 13) rfl (fun q9 => ?_)
  refine x_astore (lv' := [(0, .ref (q 0)), (1, .int a1), (2, .int a2), (3, .ref (q 132)), (4, .ref q9)]) C dL_page_13 (by decide) [1, 2, 3, 4, 0] rfl ?_
  refine x_iconst (v := (1 : Int32)) C dL_page_15 (by decide) ?_
  exact g_wret C hq (fun _ _ => rfl) hr dL_page_16 rfl rfl rfl
set_option maxRecDepth 20000 in
theorem kw_page_IA : Cond.classLink RL 15 "java/lang/IllegalArgumentException" ∈ wsL_page := by decide +kernel
set_option maxRecDepth 100000 in
set_option maxHeartbeats 4000000 in
theorem cw_page_IA (l : Launch) (hl9 : l.stackTraces = false) (G : gG) (q : Nat → Nat) (m : gM) (h : gN) (a1 : Int32) (a2 : Int32) (hok : ox_h_page m a1 a2) (hE : (fx_h_page m a1 a2) = "java/lang/IllegalArgumentException") : gMw l yL_page wsL_page rmw_page G shW q [0, 1, 2, 3, 132] m h [.ref (q 0), .int a1, .int a2, .ref (q 132)] m h 2 := by
  intro sz
  refine g_metw (cc := cL_page) (maxL := 5) (ret := (some .int)) (own := RL) (hh := [(0, 10, 13, 13), (0, 10, 17, 15)]) (Qc := fun sz => gQw G shW q [0, 1, 2, 3, 132] m h sz 2) (by decide) rfl rfl (Nat.le_of_ble_eq_true rfl) (fun p e s m9 below meth c C hq hX htab hr => ?_)
  refine x_lv (lv' := [(0, .ref (q 0)), (1, .int a1), (2, .int a2), (3, .ref (q 132))]) [0, 1, 2, 3] rfl ?_
  refine x_aload_n C dL_page_0 rfl 3 rfl ?_
  refine x_iconst (v := (0 : Int32)) C dL_page_1 (by decide) ?_
  refine x_aload_n C dL_page_2 rfl 0 rfl ?_
  refine x_iload_n C dL_page_3 rfl 1 rfl ?_
  refine x_iload_n C dL_page_4 rfl 2 rfl ?_
  refine x_callWx (n := 2) (shc := shH) (rest := [.inr (.inr (.inr 1))]) (E := "java/lang/IllegalArgumentException") C hq (by decide +kernel) rfl hX (hE ▸ cx_h_page l hl9 G q m h a1 a2 hok) (cwV 2 C.2.2.2.2.2.1 gL_page_X2_page rfl rfl rfl (by decide +kernel) ⟨Nat.le_of_ble_eq_true rfl, Nat.le_of_ble_eq_true rfl⟩) rfl rfl rfl rfl (Nat.le_of_ble_eq_true rfl) dL_page_5 (Nat.le_refl _) (Nat.le_refl _) [⟨0, 10, 13, 13⟩] ⟨0, 10, 17, 15⟩ [] htab (fun z hz => by simp only [List.mem_cons, List.not_mem_nil, or_false] at hz; rcases hz with rfl <;> first | (exact ⟨by decide, "java/lang/IndexOutOfBoundsException", kw_page_IO, by decide +kernel⟩; done)) (by decide) (by decide) kw_page_IA (by decide +kernel) (hpc := 17) rfl (fun q9 => ?_)
  refine x_astore (lv' := [(0, .ref (q 0)), (1, .int a1), (2, .int a2), (3, .ref (q 132)), (4, .ref q9)]) C dL_page_17 (by decide) [1, 2, 3, 4, 0] rfl ?_
  refine x_iconst (v := (2 : Int32)) C dL_page_19 (by decide) ?_
  exact g_wret C hq (fun _ _ => rfl) hr dL_page_20 rfl rfl rfl

abbrev rmw_block : Room := { frames := 7, cells := 1, slots := 6, locals := 104 }
set_option maxRecDepth 100000 in
set_option maxHeartbeats 4000000 in
theorem cw_block (l : Launch) (G : gG) (q : Nat → Nat) (m : gM) (h : gN) (a1 : Int32) (a2 : Int32) (hok : o_h_block m a1 a2) : gMw l yL_block wsL_block rmw_block G shW q [0, 1, 2, 3, 132] m h [.ref (q 0), .int a1, .int a2, .ref (q 132)] m (g_setN h 132 (vp_updL (h 132) 0 (Int32.toInt64 (f_h_block m a1 a2)))) 0 := by
  intro sz
  refine g_metw (cc := cL_block) (maxL := 5) (ret := (some .int)) (own := RL) (hh := [(0, 10, 13, 13), (0, 10, 17, 15)]) (Qc := fun sz => gQw G shW q [0, 1, 2, 3, 132] m (g_setN h 132 (vp_updL (h 132) 0 (Int32.toInt64 (f_h_block m a1 a2)))) sz 0) (by decide) rfl rfl (Nat.le_of_ble_eq_true rfl) (fun p e s m9 below meth c C hq hX htab hr => ?_)
  refine x_lv (lv' := [(0, .ref (q 0)), (1, .int a1), (2, .int a2), (3, .ref (q 132))]) [0, 1, 2, 3] rfl ?_
  refine x_aload_n C dL_block_0 rfl 3 rfl ?_
  refine x_iconst (v := (0 : Int32)) C dL_block_1 (by decide) ?_
  refine x_aload_n C dL_block_2 rfl 0 rfl ?_
  refine x_iload_n C dL_block_3 rfl 1 rfl ?_
  refine x_iload_n C dL_block_4 rfl 2 rfl ?_
  refine x_callWi (n := 2) (shc := shH) (rest := [.inr (.inr (.inr 1))]) C hq (by decide +kernel) rfl (c_h_block l G q m h a1 a2 hok) (cwV 2 C.2.2.2.2.2.1 gL_block_X2_block rfl rfl rfl (by decide +kernel) ⟨Nat.le_of_ble_eq_true rfl, Nat.le_of_ble_eq_true rfl⟩) rfl rfl rfl rfl (Nat.le_of_ble_eq_true rfl) dL_block_5 (Nat.zero_le _) (Nat.zero_le _) (fun q1 h4 hq1 => ?_)
  refine x_lve (lv' := [(0, .ref (q1 0)), (1, .int a1), (2, .int a2), (3, .ref (q1 132))]) (by rw [h4 0, h4 132]) ?_
  refine x_i2l C dL_block_8 rfl ?_
  refine x_stk (st' := [.long (Int32.toInt64 (f_h_block m a1 a2)), .int 0, .ref (q1 132)]) (by rw [h4 132]) ?_
  refine x_last (ν' := g_setN h 132 (vp_updL (h 132) 0 (Int32.toInt64 (f_h_block m a1 a2)))) (n := 1) C hq1 132 rfl (by unfold vp_in; decide) rfl dL_block_9 ?_
  refine x_goto (tgt := 21) C dL_block_10 (by decide) ?_
  refine x_iconst (v := (0 : Int32)) C dL_block_21 (by decide) ?_
  refine x_wid (k := 1) (n := 6) (by decide) (by decide) ?_
  exact g_wret C hq1 (fun k _ => h4 k) hr dL_block_22 rfl rfl rfl
set_option maxRecDepth 20000 in
theorem kw_block_IO : Cond.classLink RL 13 "java/lang/IndexOutOfBoundsException" ∈ wsL_block := by decide +kernel
set_option maxRecDepth 100000 in
set_option maxHeartbeats 4000000 in
theorem cw_block_IO (l : Launch) (hl9 : l.stackTraces = false) (G : gG) (q : Nat → Nat) (m : gM) (h : gN) (a1 : Int32) (a2 : Int32) (hok : ox_h_block m a1 a2) (hE : (fx_h_block m a1 a2) = "java/lang/IndexOutOfBoundsException") : gMw l yL_block wsL_block rmw_block G shW q [0, 1, 2, 3, 132] m h [.ref (q 0), .int a1, .int a2, .ref (q 132)] m h 1 := by
  intro sz
  refine g_metw (cc := cL_block) (maxL := 5) (ret := (some .int)) (own := RL) (hh := [(0, 10, 13, 13), (0, 10, 17, 15)]) (Qc := fun sz => gQw G shW q [0, 1, 2, 3, 132] m h sz 1) (by decide) rfl rfl (Nat.le_of_ble_eq_true rfl) (fun p e s m9 below meth c C hq hX htab hr => ?_)
  refine x_lv (lv' := [(0, .ref (q 0)), (1, .int a1), (2, .int a2), (3, .ref (q 132))]) [0, 1, 2, 3] rfl ?_
  refine x_aload_n C dL_block_0 rfl 3 rfl ?_
  refine x_iconst (v := (0 : Int32)) C dL_block_1 (by decide) ?_
  refine x_aload_n C dL_block_2 rfl 0 rfl ?_
  refine x_iload_n C dL_block_3 rfl 1 rfl ?_
  refine x_iload_n C dL_block_4 rfl 2 rfl ?_
  refine x_callWx (n := 2) (shc := shH) (rest := [.inr (.inr (.inr 1))]) (E := "java/lang/IndexOutOfBoundsException") C hq (by decide +kernel) rfl hX (hE ▸ cx_h_block l hl9 G q m h a1 a2 hok) (cwV 2 C.2.2.2.2.2.1 gL_block_X2_block rfl rfl rfl (by decide +kernel) ⟨Nat.le_of_ble_eq_true rfl, Nat.le_of_ble_eq_true rfl⟩) rfl rfl rfl rfl (Nat.le_of_ble_eq_true rfl) dL_block_5 (Nat.le_refl _) (Nat.le_refl _) [] ⟨0, 10, 13, 13⟩ [⟨0, 10, 17, 15⟩] htab (fun z hz => absurd hz List.not_mem_nil) (by decide) (by decide) kw_block_IO (by decide +kernel) (hpc := 13) rfl (fun q9 => ?_)
  refine x_astore (lv' := [(0, .ref (q 0)), (1, .int a1), (2, .int a2), (3, .ref (q 132)), (4, .ref q9)]) C dL_block_13 (by decide) [1, 2, 3, 4, 0] rfl ?_
  refine x_iconst (v := (1 : Int32)) C dL_block_15 (by decide) ?_
  exact g_wret C hq (fun _ _ => rfl) hr dL_block_16 rfl rfl rfl
set_option maxRecDepth 20000 in
theorem kw_block_IA : Cond.classLink RL 15 "java/lang/IllegalArgumentException" ∈ wsL_block := by decide +kernel
set_option maxRecDepth 100000 in
set_option maxHeartbeats 4000000 in
theorem cw_block_IA (l : Launch) (hl9 : l.stackTraces = false) (G : gG) (q : Nat → Nat) (m : gM) (h : gN) (a1 : Int32) (a2 : Int32) (hok : ox_h_block m a1 a2) (hE : (fx_h_block m a1 a2) = "java/lang/IllegalArgumentException") : gMw l yL_block wsL_block rmw_block G shW q [0, 1, 2, 3, 132] m h [.ref (q 0), .int a1, .int a2, .ref (q 132)] m h 2 := by
  intro sz
  refine g_metw (cc := cL_block) (maxL := 5) (ret := (some .int)) (own := RL) (hh := [(0, 10, 13, 13), (0, 10, 17, 15)]) (Qc := fun sz => gQw G shW q [0, 1, 2, 3, 132] m h sz 2) (by decide) rfl rfl (Nat.le_of_ble_eq_true rfl) (fun p e s m9 below meth c C hq hX htab hr => ?_)
  refine x_lv (lv' := [(0, .ref (q 0)), (1, .int a1), (2, .int a2), (3, .ref (q 132))]) [0, 1, 2, 3] rfl ?_
  refine x_aload_n C dL_block_0 rfl 3 rfl ?_
  refine x_iconst (v := (0 : Int32)) C dL_block_1 (by decide) ?_
  refine x_aload_n C dL_block_2 rfl 0 rfl ?_
  refine x_iload_n C dL_block_3 rfl 1 rfl ?_
  refine x_iload_n C dL_block_4 rfl 2 rfl ?_
  refine x_callWx (n := 2) (shc := shH) (rest := [.inr (.inr (.inr 1))]) (E := "java/lang/IllegalArgumentException") C hq (by decide +kernel) rfl hX (hE ▸ cx_h_block l hl9 G q m h a1 a2 hok) (cwV 2 C.2.2.2.2.2.1 gL_block_X2_block rfl rfl rfl (by decide +kernel) ⟨Nat.le_of_ble_eq_true rfl, Nat.le_of_ble_eq_true rfl⟩) rfl rfl rfl rfl (Nat.le_of_ble_eq_true rfl) dL_block_5 (Nat.le_refl _) (Nat.le_refl _) [⟨0, 10, 13, 13⟩] ⟨0, 10, 17, 15⟩ [] htab (fun z hz => by simp only [List.mem_cons, List.not_mem_nil, or_false] at hz; rcases hz with rfl <;> first | (exact ⟨by decide, "java/lang/IndexOutOfBoundsException", kw_block_IO, by decide +kernel⟩; done)) (by decide) (by decide) kw_block_IA (by decide +kernel) (hpc := 17) rfl (fun q9 => ?_)
  refine x_astore (lv' := [(0, .ref (q 0)), (1, .int a1), (2, .int a2), (3, .ref (q 132)), (4, .ref q9)]) C dL_block_17 (by decide) [1, 2, 3, 4, 0] rfl ?_
  refine x_iconst (v := (2 : Int32)) C dL_block_19 (by decide) ?_
  exact g_wret C hq (fun _ _ => rfl) hr dL_block_20 rfl rfl rfl

abbrev rmw_slot : Room := { frames := 7, cells := 1, slots := 6, locals := 106 }
set_option maxRecDepth 100000 in
set_option maxHeartbeats 4000000 in
theorem cw_slot (l : Launch) (G : gG) (q : Nat → Nat) (m : gM) (h : gN) (a1 : Int32) (a2 : Int32) (a3 : Int32) (hok : o_h_slot m a1 a2 a3) : gMw l yL_slot wsL_slot rmw_slot G shW q [0, 1, 2, 3, 132] m h [.ref (q 0), .int a1, .int a2, .int a3, .ref (q 132)] m (g_setN h 132 (vp_updL (h 132) 0 (Int32.toInt64 (f_h_slot m a1 a2 a3)))) 0 := by
  intro sz
  refine g_metw (cc := cL_slot) (maxL := 6) (ret := (some .int)) (own := RL) (hh := [(0, 12, 15, 13)]) (Qc := fun sz => gQw G shW q [0, 1, 2, 3, 132] m (g_setN h 132 (vp_updL (h 132) 0 (Int32.toInt64 (f_h_slot m a1 a2 a3)))) sz 0) (by decide) rfl rfl (Nat.le_of_ble_eq_true rfl) (fun p e s m9 below meth c C hq hX htab hr => ?_)
  refine x_lv (lv' := [(0, .ref (q 0)), (1, .int a1), (2, .int a2), (3, .int a3), (4, .ref (q 132))]) [0, 1, 2, 3, 4] rfl ?_
  refine x_aload C dL_slot_0 4 rfl ?_
  refine x_iconst (v := (0 : Int32)) C dL_slot_2 (by decide) ?_
  refine x_aload_n C dL_slot_3 rfl 0 rfl ?_
  refine x_iload_n C dL_slot_4 rfl 1 rfl ?_
  refine x_iload_n C dL_slot_5 rfl 2 rfl ?_
  refine x_iload_n C dL_slot_6 rfl 3 rfl ?_
  refine x_callWi (n := 3) (shc := shH) (rest := [.inr (.inr (.inr 1))]) C hq (by decide +kernel) rfl (c_h_slot l G q m h a1 a2 a3 hok) (cwV 3 C.2.2.2.2.2.1 gL_slot_X2_slot rfl rfl rfl (by decide +kernel) ⟨Nat.le_of_ble_eq_true rfl, Nat.le_of_ble_eq_true rfl⟩) rfl rfl rfl rfl (Nat.le_of_ble_eq_true rfl) dL_slot_7 (Nat.zero_le _) (Nat.zero_le _) (fun q1 h4 hq1 => ?_)
  refine x_lve (lv' := [(0, .ref (q1 0)), (1, .int a1), (2, .int a2), (3, .int a3), (4, .ref (q1 132))]) (by rw [h4 0, h4 132]) ?_
  refine x_i2l C dL_slot_10 rfl ?_
  refine x_stk (st' := [.long (Int32.toInt64 (f_h_slot m a1 a2 a3)), .int 0, .ref (q1 132)]) (by rw [h4 132]) ?_
  refine x_last (ν' := g_setN h 132 (vp_updL (h 132) 0 (Int32.toInt64 (f_h_slot m a1 a2 a3)))) (n := 1) C hq1 132 rfl (by unfold vp_in; decide) rfl dL_slot_11 ?_
  refine x_goto (tgt := 19) C dL_slot_12 (by decide) ?_
  refine x_iconst (v := (0 : Int32)) C dL_slot_19 (by decide) ?_
  refine x_wid (k := 1) (n := 6) (by decide) (by decide) ?_
  exact g_wret C hq1 (fun k _ => h4 k) hr dL_slot_20 rfl rfl rfl
set_option maxRecDepth 20000 in
theorem kw_slot_IO : Cond.classLink RL 13 "java/lang/IndexOutOfBoundsException" ∈ wsL_slot := by decide +kernel
set_option maxRecDepth 100000 in
set_option maxHeartbeats 4000000 in
theorem cw_slot_IO (l : Launch) (hl9 : l.stackTraces = false) (G : gG) (q : Nat → Nat) (m : gM) (h : gN) (a1 : Int32) (a2 : Int32) (a3 : Int32) (hok : ox_h_slot m a1 a2 a3) (hE : (fx_h_slot m a1 a2 a3) = "java/lang/IndexOutOfBoundsException") : gMw l yL_slot wsL_slot rmw_slot G shW q [0, 1, 2, 3, 132] m h [.ref (q 0), .int a1, .int a2, .int a3, .ref (q 132)] m h 1 := by
  intro sz
  refine g_metw (cc := cL_slot) (maxL := 6) (ret := (some .int)) (own := RL) (hh := [(0, 12, 15, 13)]) (Qc := fun sz => gQw G shW q [0, 1, 2, 3, 132] m h sz 1) (by decide) rfl rfl (Nat.le_of_ble_eq_true rfl) (fun p e s m9 below meth c C hq hX htab hr => ?_)
  refine x_lv (lv' := [(0, .ref (q 0)), (1, .int a1), (2, .int a2), (3, .int a3), (4, .ref (q 132))]) [0, 1, 2, 3, 4] rfl ?_
  refine x_aload C dL_slot_0 4 rfl ?_
  refine x_iconst (v := (0 : Int32)) C dL_slot_2 (by decide) ?_
  refine x_aload_n C dL_slot_3 rfl 0 rfl ?_
  refine x_iload_n C dL_slot_4 rfl 1 rfl ?_
  refine x_iload_n C dL_slot_5 rfl 2 rfl ?_
  refine x_iload_n C dL_slot_6 rfl 3 rfl ?_
  refine x_callWx (n := 3) (shc := shH) (rest := [.inr (.inr (.inr 1))]) (E := "java/lang/IndexOutOfBoundsException") C hq (by decide +kernel) rfl hX (hE ▸ cx_h_slot l hl9 G q m h a1 a2 a3 hok) (cwV 3 C.2.2.2.2.2.1 gL_slot_X2_slot rfl rfl rfl (by decide +kernel) ⟨Nat.le_of_ble_eq_true rfl, Nat.le_of_ble_eq_true rfl⟩) rfl rfl rfl rfl (Nat.le_of_ble_eq_true rfl) dL_slot_7 (Nat.le_refl _) (Nat.le_refl _) [] ⟨0, 12, 15, 13⟩ [] htab (fun z hz => absurd hz List.not_mem_nil) (by decide) (by decide) kw_slot_IO (by decide +kernel) (hpc := 15) rfl (fun q9 => ?_)
  refine x_astore (lv' := [(0, .ref (q 0)), (1, .int a1), (2, .int a2), (3, .int a3), (4, .ref (q 132)), (5, .ref q9)]) C dL_slot_15 (by decide) [1, 2, 3, 4, 5, 0] rfl ?_
  refine x_iconst (v := (1 : Int32)) C dL_slot_17 (by decide) ?_
  exact g_wret C hq (fun _ _ => rfl) hr dL_slot_18 rfl rfl rfl

abbrev rmw_stream : Room := { frames := 7, cells := 1, slots := 6, locals := 104 }
set_option maxRecDepth 100000 in
set_option maxHeartbeats 4000000 in
theorem cw_stream (l : Launch) (G : gG) (q : Nat → Nat) (m : gM) (h : gN) (a1 : Int32) (a2 : Int32) (hok : o_h_stream m a1 a2) : gMw l yL_stream wsL_stream rmw_stream G shW q [0, 1, 2, 3, 132] m h [.ref (q 0), .int a1, .int a2, .ref (q 132)] m (g_setN h 132 (vp_updL (h 132) 0 (Int32.toInt64 (f_h_stream m a1 a2)))) 0 := by
  intro sz
  refine g_metw (cc := cL_stream) (maxL := 5) (ret := (some .int)) (own := RL) (hh := [(0, 10, 13, 13), (0, 10, 17, 15)]) (Qc := fun sz => gQw G shW q [0, 1, 2, 3, 132] m (g_setN h 132 (vp_updL (h 132) 0 (Int32.toInt64 (f_h_stream m a1 a2)))) sz 0) (by decide) rfl rfl (Nat.le_of_ble_eq_true rfl) (fun p e s m9 below meth c C hq hX htab hr => ?_)
  refine x_lv (lv' := [(0, .ref (q 0)), (1, .int a1), (2, .int a2), (3, .ref (q 132))]) [0, 1, 2, 3] rfl ?_
  refine x_aload_n C dL_stream_0 rfl 3 rfl ?_
  refine x_iconst (v := (0 : Int32)) C dL_stream_1 (by decide) ?_
  refine x_aload_n C dL_stream_2 rfl 0 rfl ?_
  refine x_iload_n C dL_stream_3 rfl 1 rfl ?_
  refine x_iload_n C dL_stream_4 rfl 2 rfl ?_
  refine x_callWi (n := 2) (shc := shH) (rest := [.inr (.inr (.inr 1))]) C hq (by decide +kernel) rfl (c_h_stream l G q m h a1 a2 hok) (cwV 2 C.2.2.2.2.2.1 gL_stream_X2_stream rfl rfl rfl (by decide +kernel) ⟨Nat.le_of_ble_eq_true rfl, Nat.le_of_ble_eq_true rfl⟩) rfl rfl rfl rfl (Nat.le_of_ble_eq_true rfl) dL_stream_5 (Nat.zero_le _) (Nat.zero_le _) (fun q1 h4 hq1 => ?_)
  refine x_lve (lv' := [(0, .ref (q1 0)), (1, .int a1), (2, .int a2), (3, .ref (q1 132))]) (by rw [h4 0, h4 132]) ?_
  refine x_i2l C dL_stream_8 rfl ?_
  refine x_stk (st' := [.long (Int32.toInt64 (f_h_stream m a1 a2)), .int 0, .ref (q1 132)]) (by rw [h4 132]) ?_
  refine x_last (ν' := g_setN h 132 (vp_updL (h 132) 0 (Int32.toInt64 (f_h_stream m a1 a2)))) (n := 1) C hq1 132 rfl (by unfold vp_in; decide) rfl dL_stream_9 ?_
  refine x_goto (tgt := 21) C dL_stream_10 (by decide) ?_
  refine x_iconst (v := (0 : Int32)) C dL_stream_21 (by decide) ?_
  refine x_wid (k := 1) (n := 6) (by decide) (by decide) ?_
  exact g_wret C hq1 (fun k _ => h4 k) hr dL_stream_22 rfl rfl rfl
set_option maxRecDepth 20000 in
theorem kw_stream_IO : Cond.classLink RL 13 "java/lang/IndexOutOfBoundsException" ∈ wsL_stream := by decide +kernel
set_option maxRecDepth 100000 in
set_option maxHeartbeats 4000000 in
theorem cw_stream_IO (l : Launch) (hl9 : l.stackTraces = false) (G : gG) (q : Nat → Nat) (m : gM) (h : gN) (a1 : Int32) (a2 : Int32) (hok : ox_h_stream m a1 a2) (hE : (fx_h_stream m a1 a2) = "java/lang/IndexOutOfBoundsException") : gMw l yL_stream wsL_stream rmw_stream G shW q [0, 1, 2, 3, 132] m h [.ref (q 0), .int a1, .int a2, .ref (q 132)] m h 1 := by
  intro sz
  refine g_metw (cc := cL_stream) (maxL := 5) (ret := (some .int)) (own := RL) (hh := [(0, 10, 13, 13), (0, 10, 17, 15)]) (Qc := fun sz => gQw G shW q [0, 1, 2, 3, 132] m h sz 1) (by decide) rfl rfl (Nat.le_of_ble_eq_true rfl) (fun p e s m9 below meth c C hq hX htab hr => ?_)
  refine x_lv (lv' := [(0, .ref (q 0)), (1, .int a1), (2, .int a2), (3, .ref (q 132))]) [0, 1, 2, 3] rfl ?_
  refine x_aload_n C dL_stream_0 rfl 3 rfl ?_
  refine x_iconst (v := (0 : Int32)) C dL_stream_1 (by decide) ?_
  refine x_aload_n C dL_stream_2 rfl 0 rfl ?_
  refine x_iload_n C dL_stream_3 rfl 1 rfl ?_
  refine x_iload_n C dL_stream_4 rfl 2 rfl ?_
  refine x_callWx (n := 2) (shc := shH) (rest := [.inr (.inr (.inr 1))]) (E := "java/lang/IndexOutOfBoundsException") C hq (by decide +kernel) rfl hX (hE ▸ cx_h_stream l hl9 G q m h a1 a2 hok) (cwV 2 C.2.2.2.2.2.1 gL_stream_X2_stream rfl rfl rfl (by decide +kernel) ⟨Nat.le_of_ble_eq_true rfl, Nat.le_of_ble_eq_true rfl⟩) rfl rfl rfl rfl (Nat.le_of_ble_eq_true rfl) dL_stream_5 (Nat.le_refl _) (Nat.le_refl _) [] ⟨0, 10, 13, 13⟩ [⟨0, 10, 17, 15⟩] htab (fun z hz => absurd hz List.not_mem_nil) (by decide) (by decide) kw_stream_IO (by decide +kernel) (hpc := 13) rfl (fun q9 => ?_)
  refine x_astore (lv' := [(0, .ref (q 0)), (1, .int a1), (2, .int a2), (3, .ref (q 132)), (4, .ref q9)]) C dL_stream_13 (by decide) [1, 2, 3, 4, 0] rfl ?_
  refine x_iconst (v := (1 : Int32)) C dL_stream_15 (by decide) ?_
  exact g_wret C hq (fun _ _ => rfl) hr dL_stream_16 rfl rfl rfl
set_option maxRecDepth 20000 in
theorem kw_stream_IA : Cond.classLink RL 15 "java/lang/IllegalArgumentException" ∈ wsL_stream := by decide +kernel
set_option maxRecDepth 100000 in
set_option maxHeartbeats 4000000 in
theorem cw_stream_IA (l : Launch) (hl9 : l.stackTraces = false) (G : gG) (q : Nat → Nat) (m : gM) (h : gN) (a1 : Int32) (a2 : Int32) (hok : ox_h_stream m a1 a2) (hE : (fx_h_stream m a1 a2) = "java/lang/IllegalArgumentException") : gMw l yL_stream wsL_stream rmw_stream G shW q [0, 1, 2, 3, 132] m h [.ref (q 0), .int a1, .int a2, .ref (q 132)] m h 2 := by
  intro sz
  refine g_metw (cc := cL_stream) (maxL := 5) (ret := (some .int)) (own := RL) (hh := [(0, 10, 13, 13), (0, 10, 17, 15)]) (Qc := fun sz => gQw G shW q [0, 1, 2, 3, 132] m h sz 2) (by decide) rfl rfl (Nat.le_of_ble_eq_true rfl) (fun p e s m9 below meth c C hq hX htab hr => ?_)
  refine x_lv (lv' := [(0, .ref (q 0)), (1, .int a1), (2, .int a2), (3, .ref (q 132))]) [0, 1, 2, 3] rfl ?_
  refine x_aload_n C dL_stream_0 rfl 3 rfl ?_
  refine x_iconst (v := (0 : Int32)) C dL_stream_1 (by decide) ?_
  refine x_aload_n C dL_stream_2 rfl 0 rfl ?_
  refine x_iload_n C dL_stream_3 rfl 1 rfl ?_
  refine x_iload_n C dL_stream_4 rfl 2 rfl ?_
  refine x_callWx (n := 2) (shc := shH) (rest := [.inr (.inr (.inr 1))]) (E := "java/lang/IllegalArgumentException") C hq (by decide +kernel) rfl hX (hE ▸ cx_h_stream l hl9 G q m h a1 a2 hok) (cwV 2 C.2.2.2.2.2.1 gL_stream_X2_stream rfl rfl rfl (by decide +kernel) ⟨Nat.le_of_ble_eq_true rfl, Nat.le_of_ble_eq_true rfl⟩) rfl rfl rfl rfl (Nat.le_of_ble_eq_true rfl) dL_stream_5 (Nat.le_refl _) (Nat.le_refl _) [⟨0, 10, 13, 13⟩] ⟨0, 10, 17, 15⟩ [] htab (fun z hz => by simp only [List.mem_cons, List.not_mem_nil, or_false] at hz; rcases hz with rfl <;> first | (exact ⟨by decide, "java/lang/IndexOutOfBoundsException", kw_stream_IO, by decide +kernel⟩; done)) (by decide) (by decide) kw_stream_IA (by decide +kernel) (hpc := 17) rfl (fun q9 => ?_)
  refine x_astore (lv' := [(0, .ref (q 0)), (1, .int a1), (2, .int a2), (3, .ref (q 132)), (4, .ref q9)]) C dL_stream_17 (by decide) [1, 2, 3, 4, 0] rfl ?_
  refine x_iconst (v := (2 : Int32)) C dL_stream_19 (by decide) ?_
  exact g_wret C hq (fun _ _ => rfl) hr dL_stream_20 rfl rfl rfl

abbrev rmw_count : Room := { frames := 7, cells := 1, slots := 6, locals := 103 }
set_option maxRecDepth 100000 in
set_option maxHeartbeats 4000000 in
theorem cw_count (l : Launch) (G : gG) (q : Nat → Nat) (m : gM) (h : gN) (a1 : Int32) (hok : o_h_count m a1) : gMw l yL_count wsL_count rmw_count G shW q [0, 1, 2, 3, 132] m h [.ref (q 0), .int a1, .ref (q 132)] m (g_setN h 132 (vp_updL (h 132) 0 (Int32.toInt64 (f_h_count m a1)))) 0 := by
  intro sz
  refine g_metw (cc := cL_count) (maxL := 4) (ret := (some .int)) (own := RL) (hh := [(0, 9, 12, 15)]) (Qc := fun sz => gQw G shW q [0, 1, 2, 3, 132] m (g_setN h 132 (vp_updL (h 132) 0 (Int32.toInt64 (f_h_count m a1)))) sz 0) (by decide) rfl rfl (Nat.le_of_ble_eq_true rfl) (fun p e s m9 below meth c C hq hX htab hr => ?_)
  refine x_lv (lv' := [(0, .ref (q 0)), (1, .int a1), (2, .ref (q 132))]) [0, 1, 2] rfl ?_
  refine x_aload_n C dL_count_0 rfl 2 rfl ?_
  refine x_iconst (v := (0 : Int32)) C dL_count_1 (by decide) ?_
  refine x_aload_n C dL_count_2 rfl 0 rfl ?_
  refine x_iload_n C dL_count_3 rfl 1 rfl ?_
  refine x_callWi (n := 1) (shc := shH) (rest := [.inr (.inr (.inr 1))]) C hq (by decide +kernel) rfl (c_h_count l G q m h a1 hok) (cwV 1 C.2.2.2.2.2.1 gL_count_X2_count rfl rfl rfl (by decide +kernel) ⟨Nat.le_of_ble_eq_true rfl, Nat.le_of_ble_eq_true rfl⟩) rfl rfl rfl rfl (Nat.le_of_ble_eq_true rfl) dL_count_4 (Nat.zero_le _) (Nat.zero_le _) (fun q1 h4 hq1 => ?_)
  refine x_lve (lv' := [(0, .ref (q1 0)), (1, .int a1), (2, .ref (q1 132))]) (by rw [h4 0, h4 132]) ?_
  refine x_i2l C dL_count_7 rfl ?_
  refine x_stk (st' := [.long (Int32.toInt64 (f_h_count m a1)), .int 0, .ref (q1 132)]) (by rw [h4 132]) ?_
  refine x_last (ν' := g_setN h 132 (vp_updL (h 132) 0 (Int32.toInt64 (f_h_count m a1)))) (n := 1) C hq1 132 rfl (by unfold vp_in; decide) rfl dL_count_8 ?_
  refine x_goto (tgt := 15) C dL_count_9 (by decide) ?_
  refine x_iconst (v := (0 : Int32)) C dL_count_15 (by decide) ?_
  refine x_wid (k := 1) (n := 6) (by decide) (by decide) ?_
  exact g_wret C hq1 (fun k _ => h4 k) hr dL_count_16 rfl rfl rfl
set_option maxRecDepth 20000 in
theorem kw_count_IA : Cond.classLink RL 15 "java/lang/IllegalArgumentException" ∈ wsL_count := by decide +kernel
set_option maxRecDepth 100000 in
set_option maxHeartbeats 4000000 in
theorem cw_count_IA (l : Launch) (hl9 : l.stackTraces = false) (G : gG) (q : Nat → Nat) (m : gM) (h : gN) (a1 : Int32) (hok : ox_h_count m a1) (hE : (fx_h_count m a1) = "java/lang/IllegalArgumentException") : gMw l yL_count wsL_count rmw_count G shW q [0, 1, 2, 3, 132] m h [.ref (q 0), .int a1, .ref (q 132)] m h 1 := by
  intro sz
  refine g_metw (cc := cL_count) (maxL := 4) (ret := (some .int)) (own := RL) (hh := [(0, 9, 12, 15)]) (Qc := fun sz => gQw G shW q [0, 1, 2, 3, 132] m h sz 1) (by decide) rfl rfl (Nat.le_of_ble_eq_true rfl) (fun p e s m9 below meth c C hq hX htab hr => ?_)
  refine x_lv (lv' := [(0, .ref (q 0)), (1, .int a1), (2, .ref (q 132))]) [0, 1, 2] rfl ?_
  refine x_aload_n C dL_count_0 rfl 2 rfl ?_
  refine x_iconst (v := (0 : Int32)) C dL_count_1 (by decide) ?_
  refine x_aload_n C dL_count_2 rfl 0 rfl ?_
  refine x_iload_n C dL_count_3 rfl 1 rfl ?_
  refine x_callWx (n := 1) (shc := shH) (rest := [.inr (.inr (.inr 1))]) (E := "java/lang/IllegalArgumentException") C hq (by decide +kernel) rfl hX (hE ▸ cx_h_count l hl9 G q m h a1 hok) (cwV 1 C.2.2.2.2.2.1 gL_count_X2_count rfl rfl rfl (by decide +kernel) ⟨Nat.le_of_ble_eq_true rfl, Nat.le_of_ble_eq_true rfl⟩) rfl rfl rfl rfl (Nat.le_of_ble_eq_true rfl) dL_count_4 (Nat.le_refl _) (Nat.le_refl _) [] ⟨0, 9, 12, 15⟩ [] htab (fun z hz => absurd hz List.not_mem_nil) (by decide) (by decide) kw_count_IA (by decide +kernel) (hpc := 12) rfl (fun q9 => ?_)
  refine x_astore_n (lv' := [(0, .ref (q 0)), (1, .int a1), (2, .ref (q 132)), (3, .ref q9)]) C dL_count_12 rfl (by decide) [1, 2, 3, 0] rfl ?_
  refine x_iconst (v := (1 : Int32)) C dL_count_13 (by decide) ?_
  exact g_wret C hq (fun _ _ => rfl) hr dL_count_14 rfl rfl rfl

abbrev rmw_setting : Room := { frames := 7, cells := 1, slots := 6, locals := 103 }
set_option maxRecDepth 100000 in
set_option maxHeartbeats 4000000 in
theorem cw_setting (l : Launch) (G : gG) (q : Nat → Nat) (m : gM) (h : gN) (a1 : Int32) (hok : o_h_setting m a1) : gMw l yL_setting wsL_setting rmw_setting G shW q [0, 1, 2, 3, 132] m h [.ref (q 0), .int a1, .ref (q 132)] m (g_setN h 132 (vp_updL (h 132) 0 (Int32.toInt64 (f_h_setting m a1)))) 0 := by
  intro sz
  refine g_metw (cc := cL_setting) (maxL := 4) (ret := (some .int)) (own := RL) (hh := [(0, 9, 12, 13)]) (Qc := fun sz => gQw G shW q [0, 1, 2, 3, 132] m (g_setN h 132 (vp_updL (h 132) 0 (Int32.toInt64 (f_h_setting m a1)))) sz 0) (by decide) rfl rfl (Nat.le_of_ble_eq_true rfl) (fun p e s m9 below meth c C hq hX htab hr => ?_)
  refine x_lv (lv' := [(0, .ref (q 0)), (1, .int a1), (2, .ref (q 132))]) [0, 1, 2] rfl ?_
  refine x_aload_n C dL_setting_0 rfl 2 rfl ?_
  refine x_iconst (v := (0 : Int32)) C dL_setting_1 (by decide) ?_
  refine x_aload_n C dL_setting_2 rfl 0 rfl ?_
  refine x_iload_n C dL_setting_3 rfl 1 rfl ?_
  refine x_callWi (n := 1) (shc := shH) (rest := [.inr (.inr (.inr 1))]) C hq (by decide +kernel) rfl (c_h_setting l G q m h a1 hok) (cwV 1 C.2.2.2.2.2.1 gL_setting_X2_setting rfl rfl rfl (by decide +kernel) ⟨Nat.le_of_ble_eq_true rfl, Nat.le_of_ble_eq_true rfl⟩) rfl rfl rfl rfl (Nat.le_of_ble_eq_true rfl) dL_setting_4 (Nat.zero_le _) (Nat.zero_le _) (fun q1 h4 hq1 => ?_)
  refine x_lve (lv' := [(0, .ref (q1 0)), (1, .int a1), (2, .ref (q1 132))]) (by rw [h4 0, h4 132]) ?_
  refine x_i2l C dL_setting_7 rfl ?_
  refine x_stk (st' := [.long (Int32.toInt64 (f_h_setting m a1)), .int 0, .ref (q1 132)]) (by rw [h4 132]) ?_
  refine x_last (ν' := g_setN h 132 (vp_updL (h 132) 0 (Int32.toInt64 (f_h_setting m a1)))) (n := 1) C hq1 132 rfl (by unfold vp_in; decide) rfl dL_setting_8 ?_
  refine x_goto (tgt := 15) C dL_setting_9 (by decide) ?_
  refine x_iconst (v := (0 : Int32)) C dL_setting_15 (by decide) ?_
  refine x_wid (k := 1) (n := 6) (by decide) (by decide) ?_
  exact g_wret C hq1 (fun k _ => h4 k) hr dL_setting_16 rfl rfl rfl
set_option maxRecDepth 20000 in
theorem kw_setting_IO : Cond.classLink RL 13 "java/lang/IndexOutOfBoundsException" ∈ wsL_setting := by decide +kernel
set_option maxRecDepth 100000 in
set_option maxHeartbeats 4000000 in
theorem cw_setting_IO (l : Launch) (hl9 : l.stackTraces = false) (G : gG) (q : Nat → Nat) (m : gM) (h : gN) (a1 : Int32) (hok : ox_h_setting m a1) (hE : (fx_h_setting m a1) = "java/lang/IndexOutOfBoundsException") : gMw l yL_setting wsL_setting rmw_setting G shW q [0, 1, 2, 3, 132] m h [.ref (q 0), .int a1, .ref (q 132)] m h 1 := by
  intro sz
  refine g_metw (cc := cL_setting) (maxL := 4) (ret := (some .int)) (own := RL) (hh := [(0, 9, 12, 13)]) (Qc := fun sz => gQw G shW q [0, 1, 2, 3, 132] m h sz 1) (by decide) rfl rfl (Nat.le_of_ble_eq_true rfl) (fun p e s m9 below meth c C hq hX htab hr => ?_)
  refine x_lv (lv' := [(0, .ref (q 0)), (1, .int a1), (2, .ref (q 132))]) [0, 1, 2] rfl ?_
  refine x_aload_n C dL_setting_0 rfl 2 rfl ?_
  refine x_iconst (v := (0 : Int32)) C dL_setting_1 (by decide) ?_
  refine x_aload_n C dL_setting_2 rfl 0 rfl ?_
  refine x_iload_n C dL_setting_3 rfl 1 rfl ?_
  refine x_callWx (n := 1) (shc := shH) (rest := [.inr (.inr (.inr 1))]) (E := "java/lang/IndexOutOfBoundsException") C hq (by decide +kernel) rfl hX (hE ▸ cx_h_setting l hl9 G q m h a1 hok) (cwV 1 C.2.2.2.2.2.1 gL_setting_X2_setting rfl rfl rfl (by decide +kernel) ⟨Nat.le_of_ble_eq_true rfl, Nat.le_of_ble_eq_true rfl⟩) rfl rfl rfl rfl (Nat.le_of_ble_eq_true rfl) dL_setting_4 (Nat.le_refl _) (Nat.le_refl _) [] ⟨0, 9, 12, 13⟩ [] htab (fun z hz => absurd hz List.not_mem_nil) (by decide) (by decide) kw_setting_IO (by decide +kernel) (hpc := 12) rfl (fun q9 => ?_)
  refine x_astore_n (lv' := [(0, .ref (q 0)), (1, .int a1), (2, .ref (q 132)), (3, .ref q9)]) C dL_setting_12 rfl (by decide) [1, 2, 3, 0] rfl ?_
  refine x_iconst (v := (1 : Int32)) C dL_setting_13 (by decide) ?_
  exact g_wret C hq (fun _ _ => rfl) hr dL_setting_14 rfl rfl rfl

abbrev rmw_ifWritten : Room := { frames := 7, cells := 1, slots := 6, locals := 138 }
set_option maxRecDepth 100000 in
set_option maxHeartbeats 4000000 in
theorem cw_ifWritten (l : Launch) (G : gG) (q : Nat → Nat) (m : gM) (h : gN) (a1 : Int32) (a2 : Int32) (a3 : Int32) (hok : o_h_ifWritten m a1 a2 a3) : gMw l yL_ifWritten wsL_ifWritten rmw_ifWritten G shW q [0, 1, 2, 3, 132] m h [.ref (q 0), .int a1, .int a2, .int a3, .ref (q 132)] ((f_h_ifWritten m a1 a2 a3).2) (g_setN h 132 (vp_updL (h 132) 0 (Int32.toInt64 (f_h_ifWritten m a1 a2 a3).1))) 0 := by
  intro sz
  refine g_metw (cc := cL_ifWritten) (maxL := 6) (ret := (some .int)) (own := RL) (hh := [(0, 12, 15, 13), (0, 12, 19, 15)]) (Qc := fun sz => gQw G shW q [0, 1, 2, 3, 132] ((f_h_ifWritten m a1 a2 a3).2) (g_setN h 132 (vp_updL (h 132) 0 (Int32.toInt64 (f_h_ifWritten m a1 a2 a3).1))) sz 0) (by decide) rfl rfl (Nat.le_of_ble_eq_true rfl) (fun p e s m9 below meth c C hq hX htab hr => ?_)
  refine x_lv (lv' := [(0, .ref (q 0)), (1, .int a1), (2, .int a2), (3, .int a3), (4, .ref (q 132))]) [0, 1, 2, 3, 4] rfl ?_
  refine x_aload C dL_ifWritten_0 4 rfl ?_
  refine x_iconst (v := (0 : Int32)) C dL_ifWritten_2 (by decide) ?_
  refine x_aload_n C dL_ifWritten_3 rfl 0 rfl ?_
  refine x_iload_n C dL_ifWritten_4 rfl 1 rfl ?_
  refine x_iload_n C dL_ifWritten_5 rfl 2 rfl ?_
  refine x_iload_n C dL_ifWritten_6 rfl 3 rfl ?_
  refine x_callWi (n := 3) (shc := shH) (rest := [.inr (.inr (.inr 1))]) C hq (by decide +kernel) rfl (c_h_ifWritten l G q m h a1 a2 a3 hok) (cwV 3 C.2.2.2.2.2.1 gL_ifWritten_X2_ifWritten rfl rfl rfl (by decide +kernel) ⟨Nat.le_of_ble_eq_true rfl, Nat.le_of_ble_eq_true rfl⟩) rfl rfl rfl rfl (Nat.le_of_ble_eq_true rfl) dL_ifWritten_7 (Nat.zero_le _) (Nat.zero_le _) (fun q1 h4 hq1 => ?_)
  refine x_lve (lv' := [(0, .ref (q1 0)), (1, .int a1), (2, .int a2), (3, .int a3), (4, .ref (q1 132))]) (by rw [h4 0, h4 132]) ?_
  refine x_i2l C dL_ifWritten_10 rfl ?_
  refine x_stk (st' := [.long (Int32.toInt64 (f_h_ifWritten m a1 a2 a3).1), .int 0, .ref (q1 132)]) (by rw [h4 132]) ?_
  refine x_last (ν' := g_setN h 132 (vp_updL (h 132) 0 (Int32.toInt64 (f_h_ifWritten m a1 a2 a3).1))) (n := 1) C hq1 132 rfl (by unfold vp_in; decide) rfl dL_ifWritten_11 ?_
  refine x_goto (tgt := 23) C dL_ifWritten_12 (by decide) ?_
  refine x_iconst (v := (0 : Int32)) C dL_ifWritten_23 (by decide) ?_
  refine x_wid (k := 1) (n := 6) (by decide) (by decide) ?_
  exact g_wret C hq1 (fun k _ => h4 k) hr dL_ifWritten_24 rfl rfl rfl
set_option maxRecDepth 20000 in
theorem kw_ifWritten_IO : Cond.classLink RL 13 "java/lang/IndexOutOfBoundsException" ∈ wsL_ifWritten := by decide +kernel
set_option maxRecDepth 100000 in
set_option maxHeartbeats 4000000 in
theorem cw_ifWritten_IO (l : Launch) (hl9 : l.stackTraces = false) (G : gG) (q : Nat → Nat) (m : gM) (h : gN) (a1 : Int32) (a2 : Int32) (a3 : Int32) (hok : ox_h_ifWritten m a1 a2 a3) (hE : (fx_h_ifWritten m a1 a2 a3) = "java/lang/IndexOutOfBoundsException") : gMw l yL_ifWritten wsL_ifWritten rmw_ifWritten G shW q [0, 1, 2, 3, 132] m h [.ref (q 0), .int a1, .int a2, .int a3, .ref (q 132)] m h 1 := by
  intro sz
  refine g_metw (cc := cL_ifWritten) (maxL := 6) (ret := (some .int)) (own := RL) (hh := [(0, 12, 15, 13), (0, 12, 19, 15)]) (Qc := fun sz => gQw G shW q [0, 1, 2, 3, 132] m h sz 1) (by decide) rfl rfl (Nat.le_of_ble_eq_true rfl) (fun p e s m9 below meth c C hq hX htab hr => ?_)
  refine x_lv (lv' := [(0, .ref (q 0)), (1, .int a1), (2, .int a2), (3, .int a3), (4, .ref (q 132))]) [0, 1, 2, 3, 4] rfl ?_
  refine x_aload C dL_ifWritten_0 4 rfl ?_
  refine x_iconst (v := (0 : Int32)) C dL_ifWritten_2 (by decide) ?_
  refine x_aload_n C dL_ifWritten_3 rfl 0 rfl ?_
  refine x_iload_n C dL_ifWritten_4 rfl 1 rfl ?_
  refine x_iload_n C dL_ifWritten_5 rfl 2 rfl ?_
  refine x_iload_n C dL_ifWritten_6 rfl 3 rfl ?_
  refine x_callWx (n := 3) (shc := shH) (rest := [.inr (.inr (.inr 1))]) (E := "java/lang/IndexOutOfBoundsException") C hq (by decide +kernel) rfl hX (hE ▸ cx_h_ifWritten l hl9 G q m h a1 a2 a3 hok) (cwV 3 C.2.2.2.2.2.1 gL_ifWritten_X2_ifWritten rfl rfl rfl (by decide +kernel) ⟨Nat.le_of_ble_eq_true rfl, Nat.le_of_ble_eq_true rfl⟩) rfl rfl rfl rfl (Nat.le_of_ble_eq_true rfl) dL_ifWritten_7 (Nat.le_refl _) (Nat.le_refl _) [] ⟨0, 12, 15, 13⟩ [⟨0, 12, 19, 15⟩] htab (fun z hz => absurd hz List.not_mem_nil) (by decide) (by decide) kw_ifWritten_IO (by decide +kernel) (hpc := 15) rfl (fun q9 => ?_)
  refine x_astore (lv' := [(0, .ref (q 0)), (1, .int a1), (2, .int a2), (3, .int a3), (4, .ref (q 132)), (5, .ref q9)]) C dL_ifWritten_15 (by decide) [1, 2, 3, 4, 5, 0] rfl ?_
  refine x_iconst (v := (1 : Int32)) C dL_ifWritten_17 (by decide) ?_
  exact g_wret C hq (fun _ _ => rfl) hr dL_ifWritten_18 rfl rfl rfl
set_option maxRecDepth 20000 in
theorem kw_ifWritten_IA : Cond.classLink RL 15 "java/lang/IllegalArgumentException" ∈ wsL_ifWritten := by decide +kernel
set_option maxRecDepth 100000 in
set_option maxHeartbeats 4000000 in
theorem cw_ifWritten_IA (l : Launch) (hl9 : l.stackTraces = false) (G : gG) (q : Nat → Nat) (m : gM) (h : gN) (a1 : Int32) (a2 : Int32) (a3 : Int32) (hok : ox_h_ifWritten m a1 a2 a3) (hE : (fx_h_ifWritten m a1 a2 a3) = "java/lang/IllegalArgumentException") : gMw l yL_ifWritten wsL_ifWritten rmw_ifWritten G shW q [0, 1, 2, 3, 132] m h [.ref (q 0), .int a1, .int a2, .int a3, .ref (q 132)] m h 2 := by
  intro sz
  refine g_metw (cc := cL_ifWritten) (maxL := 6) (ret := (some .int)) (own := RL) (hh := [(0, 12, 15, 13), (0, 12, 19, 15)]) (Qc := fun sz => gQw G shW q [0, 1, 2, 3, 132] m h sz 2) (by decide) rfl rfl (Nat.le_of_ble_eq_true rfl) (fun p e s m9 below meth c C hq hX htab hr => ?_)
  refine x_lv (lv' := [(0, .ref (q 0)), (1, .int a1), (2, .int a2), (3, .int a3), (4, .ref (q 132))]) [0, 1, 2, 3, 4] rfl ?_
  refine x_aload C dL_ifWritten_0 4 rfl ?_
  refine x_iconst (v := (0 : Int32)) C dL_ifWritten_2 (by decide) ?_
  refine x_aload_n C dL_ifWritten_3 rfl 0 rfl ?_
  refine x_iload_n C dL_ifWritten_4 rfl 1 rfl ?_
  refine x_iload_n C dL_ifWritten_5 rfl 2 rfl ?_
  refine x_iload_n C dL_ifWritten_6 rfl 3 rfl ?_
  refine x_callWx (n := 3) (shc := shH) (rest := [.inr (.inr (.inr 1))]) (E := "java/lang/IllegalArgumentException") C hq (by decide +kernel) rfl hX (hE ▸ cx_h_ifWritten l hl9 G q m h a1 a2 a3 hok) (cwV 3 C.2.2.2.2.2.1 gL_ifWritten_X2_ifWritten rfl rfl rfl (by decide +kernel) ⟨Nat.le_of_ble_eq_true rfl, Nat.le_of_ble_eq_true rfl⟩) rfl rfl rfl rfl (Nat.le_of_ble_eq_true rfl) dL_ifWritten_7 (Nat.le_refl _) (Nat.le_refl _) [⟨0, 12, 15, 13⟩] ⟨0, 12, 19, 15⟩ [] htab (fun z hz => by simp only [List.mem_cons, List.not_mem_nil, or_false] at hz; rcases hz with rfl <;> first | (exact ⟨by decide, "java/lang/IndexOutOfBoundsException", kw_ifWritten_IO, by decide +kernel⟩; done)) (by decide) (by decide) kw_ifWritten_IA (by decide +kernel) (hpc := 19) rfl (fun q9 => ?_)
  refine x_astore (lv' := [(0, .ref (q 0)), (1, .int a1), (2, .int a2), (3, .int a3), (4, .ref (q 132)), (5, .ref q9)]) C dL_ifWritten_19 (by decide) [1, 2, 3, 4, 5, 0] rfl ?_
  refine x_iconst (v := (2 : Int32)) C dL_ifWritten_21 (by decide) ?_
  exact g_wret C hq (fun _ _ => rfl) hr dL_ifWritten_22 rfl rfl rfl

abbrev rmw_ifRewritten : Room := { frames := 7, cells := 1, slots := 6, locals := 138 }
set_option maxRecDepth 100000 in
set_option maxHeartbeats 4000000 in
theorem cw_ifRewritten (l : Launch) (G : gG) (q : Nat → Nat) (m : gM) (h : gN) (a1 : Int32) (hok : o_h_ifRewritten m a1) : gMw l yL_ifRewritten wsL_ifRewritten rmw_ifRewritten G shW q [0, 1, 2, 3, 132] m h [.ref (q 0), .int a1, .ref (q 132)] ((f_h_ifRewritten m a1).2) (g_setN h 132 (vp_updL (h 132) 0 (Int32.toInt64 (f_h_ifRewritten m a1).1))) 0 := by
  intro sz
  refine g_metw (cc := cL_ifRewritten) (maxL := 4) (ret := (some .int)) (own := RL) (hh := [(0, 9, 12, 15)]) (Qc := fun sz => gQw G shW q [0, 1, 2, 3, 132] ((f_h_ifRewritten m a1).2) (g_setN h 132 (vp_updL (h 132) 0 (Int32.toInt64 (f_h_ifRewritten m a1).1))) sz 0) (by decide) rfl rfl (Nat.le_of_ble_eq_true rfl) (fun p e s m9 below meth c C hq hX htab hr => ?_)
  refine x_lv (lv' := [(0, .ref (q 0)), (1, .int a1), (2, .ref (q 132))]) [0, 1, 2] rfl ?_
  refine x_aload_n C dL_ifRewritten_0 rfl 2 rfl ?_
  refine x_iconst (v := (0 : Int32)) C dL_ifRewritten_1 (by decide) ?_
  refine x_aload_n C dL_ifRewritten_2 rfl 0 rfl ?_
  refine x_iload_n C dL_ifRewritten_3 rfl 1 rfl ?_
  refine x_callWi (n := 1) (shc := shH) (rest := [.inr (.inr (.inr 1))]) C hq (by decide +kernel) rfl (c_h_ifRewritten l G q m h a1 hok) (cwV 1 C.2.2.2.2.2.1 gL_ifRewritten_X2_ifRewritten rfl rfl rfl (by decide +kernel) ⟨Nat.le_of_ble_eq_true rfl, Nat.le_of_ble_eq_true rfl⟩) rfl rfl rfl rfl (Nat.le_of_ble_eq_true rfl) dL_ifRewritten_4 (Nat.zero_le _) (Nat.zero_le _) (fun q1 h4 hq1 => ?_)
  refine x_lve (lv' := [(0, .ref (q1 0)), (1, .int a1), (2, .ref (q1 132))]) (by rw [h4 0, h4 132]) ?_
  refine x_i2l C dL_ifRewritten_7 rfl ?_
  refine x_stk (st' := [.long (Int32.toInt64 (f_h_ifRewritten m a1).1), .int 0, .ref (q1 132)]) (by rw [h4 132]) ?_
  refine x_last (ν' := g_setN h 132 (vp_updL (h 132) 0 (Int32.toInt64 (f_h_ifRewritten m a1).1))) (n := 1) C hq1 132 rfl (by unfold vp_in; decide) rfl dL_ifRewritten_8 ?_
  refine x_goto (tgt := 15) C dL_ifRewritten_9 (by decide) ?_
  refine x_iconst (v := (0 : Int32)) C dL_ifRewritten_15 (by decide) ?_
  refine x_wid (k := 1) (n := 6) (by decide) (by decide) ?_
  exact g_wret C hq1 (fun k _ => h4 k) hr dL_ifRewritten_16 rfl rfl rfl
set_option maxRecDepth 20000 in
theorem kw_ifRewritten_IA : Cond.classLink RL 15 "java/lang/IllegalArgumentException" ∈ wsL_ifRewritten := by decide +kernel
set_option maxRecDepth 100000 in
set_option maxHeartbeats 4000000 in
theorem cw_ifRewritten_IA (l : Launch) (hl9 : l.stackTraces = false) (G : gG) (q : Nat → Nat) (m : gM) (h : gN) (a1 : Int32) (hok : ox_h_ifRewritten m a1) (hE : (fx_h_ifRewritten m a1) = "java/lang/IllegalArgumentException") : gMw l yL_ifRewritten wsL_ifRewritten rmw_ifRewritten G shW q [0, 1, 2, 3, 132] m h [.ref (q 0), .int a1, .ref (q 132)] m h 1 := by
  intro sz
  refine g_metw (cc := cL_ifRewritten) (maxL := 4) (ret := (some .int)) (own := RL) (hh := [(0, 9, 12, 15)]) (Qc := fun sz => gQw G shW q [0, 1, 2, 3, 132] m h sz 1) (by decide) rfl rfl (Nat.le_of_ble_eq_true rfl) (fun p e s m9 below meth c C hq hX htab hr => ?_)
  refine x_lv (lv' := [(0, .ref (q 0)), (1, .int a1), (2, .ref (q 132))]) [0, 1, 2] rfl ?_
  refine x_aload_n C dL_ifRewritten_0 rfl 2 rfl ?_
  refine x_iconst (v := (0 : Int32)) C dL_ifRewritten_1 (by decide) ?_
  refine x_aload_n C dL_ifRewritten_2 rfl 0 rfl ?_
  refine x_iload_n C dL_ifRewritten_3 rfl 1 rfl ?_
  refine x_callWx (n := 1) (shc := shH) (rest := [.inr (.inr (.inr 1))]) (E := "java/lang/IllegalArgumentException") C hq (by decide +kernel) rfl hX (hE ▸ cx_h_ifRewritten l hl9 G q m h a1 hok) (cwV 1 C.2.2.2.2.2.1 gL_ifRewritten_X2_ifRewritten rfl rfl rfl (by decide +kernel) ⟨Nat.le_of_ble_eq_true rfl, Nat.le_of_ble_eq_true rfl⟩) rfl rfl rfl rfl (Nat.le_of_ble_eq_true rfl) dL_ifRewritten_4 (Nat.le_refl _) (Nat.le_refl _) [] ⟨0, 9, 12, 15⟩ [] htab (fun z hz => absurd hz List.not_mem_nil) (by decide) (by decide) kw_ifRewritten_IA (by decide +kernel) (hpc := 12) rfl (fun q9 => ?_)
  refine x_astore_n (lv' := [(0, .ref (q 0)), (1, .int a1), (2, .ref (q 132)), (3, .ref q9)]) C dL_ifRewritten_12 rfl (by decide) [1, 2, 3, 0] rfl ?_
  refine x_iconst (v := (1 : Int32)) C dL_ifRewritten_13 (by decide) ?_
  exact g_wret C hq (fun _ _ => rfl) hr dL_ifRewritten_14 rfl rfl rfl

abbrev rmw_bestRule : Room := { frames := 7, cells := 1, slots := 6, locals := 142 }
set_option maxRecDepth 100000 in
set_option maxHeartbeats 4000000 in
theorem cw_bestRule (l : Launch) (G : gG) (q : Nat → Nat) (m : gM) (h : gN) (a1 : Int32) (hok : o_h_bestRule m a1) : gMw l yL_bestRule wsL_bestRule rmw_bestRule G shW q [0, 1, 2, 3, 132] m h [.ref (q 0), .int a1, .ref (q 132)] ((f_h_bestRule m a1).2) (g_setN h 132 (vp_updL (h 132) 0 (Int32.toInt64 (f_h_bestRule m a1).1))) 0 := by
  intro sz
  refine g_metw (cc := cL_bestRule) (maxL := 4) (ret := (some .int)) (own := RL) (hh := [(0, 9, 12, 15)]) (Qc := fun sz => gQw G shW q [0, 1, 2, 3, 132] ((f_h_bestRule m a1).2) (g_setN h 132 (vp_updL (h 132) 0 (Int32.toInt64 (f_h_bestRule m a1).1))) sz 0) (by decide) rfl rfl (Nat.le_of_ble_eq_true rfl) (fun p e s m9 below meth c C hq hX htab hr => ?_)
  refine x_lv (lv' := [(0, .ref (q 0)), (1, .int a1), (2, .ref (q 132))]) [0, 1, 2] rfl ?_
  refine x_aload_n C dL_bestRule_0 rfl 2 rfl ?_
  refine x_iconst (v := (0 : Int32)) C dL_bestRule_1 (by decide) ?_
  refine x_aload_n C dL_bestRule_2 rfl 0 rfl ?_
  refine x_iload_n C dL_bestRule_3 rfl 1 rfl ?_
  refine x_callWi (n := 1) (shc := shH) (rest := [.inr (.inr (.inr 1))]) C hq (by decide +kernel) rfl (c_h_bestRule l G q m h a1 hok) (cwV 1 C.2.2.2.2.2.1 gL_bestRule_X2_bestRule rfl rfl rfl (by decide +kernel) ⟨Nat.le_of_ble_eq_true rfl, Nat.le_of_ble_eq_true rfl⟩) rfl rfl rfl rfl (Nat.le_of_ble_eq_true rfl) dL_bestRule_4 (Nat.zero_le _) (Nat.zero_le _) (fun q1 h4 hq1 => ?_)
  refine x_lve (lv' := [(0, .ref (q1 0)), (1, .int a1), (2, .ref (q1 132))]) (by rw [h4 0, h4 132]) ?_
  refine x_i2l C dL_bestRule_7 rfl ?_
  refine x_stk (st' := [.long (Int32.toInt64 (f_h_bestRule m a1).1), .int 0, .ref (q1 132)]) (by rw [h4 132]) ?_
  refine x_last (ν' := g_setN h 132 (vp_updL (h 132) 0 (Int32.toInt64 (f_h_bestRule m a1).1))) (n := 1) C hq1 132 rfl (by unfold vp_in; decide) rfl dL_bestRule_8 ?_
  refine x_goto (tgt := 15) C dL_bestRule_9 (by decide) ?_
  refine x_iconst (v := (0 : Int32)) C dL_bestRule_15 (by decide) ?_
  refine x_wid (k := 1) (n := 6) (by decide) (by decide) ?_
  exact g_wret C hq1 (fun k _ => h4 k) hr dL_bestRule_16 rfl rfl rfl
set_option maxRecDepth 20000 in
theorem kw_bestRule_IA : Cond.classLink RL 15 "java/lang/IllegalArgumentException" ∈ wsL_bestRule := by decide +kernel
set_option maxRecDepth 100000 in
set_option maxHeartbeats 4000000 in
theorem cw_bestRule_IA (l : Launch) (hl9 : l.stackTraces = false) (G : gG) (q : Nat → Nat) (m : gM) (h : gN) (a1 : Int32) (hok : ox_h_bestRule m a1) (hE : (fx_h_bestRule m a1) = "java/lang/IllegalArgumentException") : gMw l yL_bestRule wsL_bestRule rmw_bestRule G shW q [0, 1, 2, 3, 132] m h [.ref (q 0), .int a1, .ref (q 132)] m h 1 := by
  intro sz
  refine g_metw (cc := cL_bestRule) (maxL := 4) (ret := (some .int)) (own := RL) (hh := [(0, 9, 12, 15)]) (Qc := fun sz => gQw G shW q [0, 1, 2, 3, 132] m h sz 1) (by decide) rfl rfl (Nat.le_of_ble_eq_true rfl) (fun p e s m9 below meth c C hq hX htab hr => ?_)
  refine x_lv (lv' := [(0, .ref (q 0)), (1, .int a1), (2, .ref (q 132))]) [0, 1, 2] rfl ?_
  refine x_aload_n C dL_bestRule_0 rfl 2 rfl ?_
  refine x_iconst (v := (0 : Int32)) C dL_bestRule_1 (by decide) ?_
  refine x_aload_n C dL_bestRule_2 rfl 0 rfl ?_
  refine x_iload_n C dL_bestRule_3 rfl 1 rfl ?_
  refine x_callWx (n := 1) (shc := shH) (rest := [.inr (.inr (.inr 1))]) (E := "java/lang/IllegalArgumentException") C hq (by decide +kernel) rfl hX (hE ▸ cx_h_bestRule l hl9 G q m h a1 hok) (cwV 1 C.2.2.2.2.2.1 gL_bestRule_X2_bestRule rfl rfl rfl (by decide +kernel) ⟨Nat.le_of_ble_eq_true rfl, Nat.le_of_ble_eq_true rfl⟩) rfl rfl rfl rfl (Nat.le_of_ble_eq_true rfl) dL_bestRule_4 (Nat.le_refl _) (Nat.le_refl _) [] ⟨0, 9, 12, 15⟩ [] htab (fun z hz => absurd hz List.not_mem_nil) (by decide) (by decide) kw_bestRule_IA (by decide +kernel) (hpc := 12) rfl (fun q9 => ?_)
  refine x_astore_n (lv' := [(0, .ref (q 0)), (1, .int a1), (2, .ref (q 132)), (3, .ref q9)]) C dL_bestRule_12 rfl (by decide) [1, 2, 3, 0] rfl ?_
  refine x_iconst (v := (1 : Int32)) C dL_bestRule_13 (by decide) ?_
  exact g_wret C hq (fun _ _ => rfl) hr dL_bestRule_14 rfl rfl rfl
