set_option maxRecDepth 20000 in
theorem in_X2_dropOldest_2 : ∀ w ∈ u_ws RX2 TX2 7, w ∈ wsX2_dropOldest := by decide +kernel
set_option maxRecDepth 20000 in
theorem k_X2_dropOldest_19 : Cond.fieldLink RX2 19 "HintedPages" "saved" "[LHintedPages$Store;" ∈ wsX2_dropOldest := by decide +kernel
set_option maxRecDepth 20000 in
theorem k_X2_dropOldest_23 : Cond.fieldLink RX2 23 "HintedPages" "savedStates" "I" ∈ wsX2_dropOldest := by decide +kernel
abbrev rm_h_dropOldest : Room := { frames := 0, cells := 0, slots := 0, locals := 0 }
noncomputable def f_h_dropOldest (m : gM) : gM := g_let (g_set m 0 (upd (m 0) 3 ((m 0 3) - (1 : Int32)))) (fun z1 : gM => (g_sel [0, 1, 2, 3, 4, 5, 6, 7, 8, 9, 10, 11, 12, 13, 14, 15, 16, 17, 18, 19, 20, 21, 22, 23, 24, 25, 26, 27, 28, 29, 30, 31, 32, 33, 34, 35, 52, 53, 54, 55, 56, 57, 58, 59, 60, 61, 62, 63, 64, 65, 66, 67, 68, 69, 70, 71, 72, 73, 74, 75, 76, 77, 78, 79, 80, 81, 82, 83, 84, 85, 86, 87, 88, 89, 90, 91, 92, 93, 94, 95, 96, 97, 98, 99, 100, 101, 102, 103, 104, 105, 106, 107, 108, 109, 110, 111, 112, 113, 114, 115, 116, 117, 118, 119, 120, 121, 122, 123, 124, 125, 126, 127, 128, 129, 130, 131, 36, 37, 38, 39, 40, 41, 42, 43, 44, 45, 46, 47, 48, 49, 50, 51] z1))
noncomputable def o_h_dropOldest (m : gM) : Prop := g_let (g_set m 0 (upd (m 0) 3 ((m 0 3) - (1 : Int32)))) (fun z1 : gM => True)
set_option maxRecDepth 100000 in
set_option maxHeartbeats 4000000 in
theorem c_h_dropOldest (l : Launch) (G : gG) (q : Nat → Nat) (m : gM) (h : gN) (hok : o_h_dropOldest m) : gMpv l yX2_dropOldest wsX2_dropOldest rm_h_dropOldest G shH q 4 m h [.ref (q 0)] (f_h_dropOldest m) h := by
  intro sz
  refine g_met (cc := cX2_dropOldest) (maxL := 3) (ret := none) (own := RX2) (Qc := fun sz => gQpv G shH q 4 (f_h_dropOldest m) h sz) (by decide) rfl rfl (Nat.le_of_ble_eq_true rfl) (fun p e s m9 below meth c C hq hr => ?_)
  refine x_lv (lv' := [(0, .ref (q 0))]) [0] rfl ?_
  have hf := f_h_dropOldest.eq_1 m
  have hok := Eq.mp (o_h_dropOldest.eq_1 m) hok
  refine x_aload_n C dX2_dropOldest_0 rfl 0 rfl ?_
  refine x_get (v := .ref (q 1)) C in_X2_dropOldest_2 0 rfl rfl 2 (by decide) k_X2_dropOldest_19 rfl rfl dX2_dropOldest_1 ?_
  refine x_iconst (v := (0 : Int32)) C dX2_dropOldest_4 (by decide) ?_
  refine x_aald (v := (0 : Int32)) (j := 36) C 1 rfl rfl (by unfold vp_in; decide) rfl dX2_dropOldest_5 ?_
  refine x_astore_n (lv' := [(0, .ref (q 0)), (1, .ref (q 36))]) C dX2_dropOldest_6 rfl (by decide) [1, 0] rfl ?_
  refine x_iconst (v := (1 : Int32)) C dX2_dropOldest_7 (by decide) ?_
  refine x_istore_n (lv' := [(0, .ref (q 0)), (1, .ref (q 36)), (2, .int (1 : Int32))]) C dX2_dropOldest_8 rfl (by decide) [1, 2, 0] rfl ?_
  refine x_iload_n C dX2_dropOldest_9 rfl 2 rfl ?_
  refine x_bipush (v := (6 : Int32)) C dX2_dropOldest_10 (by decide) ?_
  refine x_icmp_ge (tgt := 35) C dX2_dropOldest_12 (by decide) (fun c9 => absurd c9 (by decide)) (fun _ => ?_)
  refine x_aload_n C dX2_dropOldest_15 rfl 0 rfl ?_
  refine x_get (v := .ref (q 1)) C in_X2_dropOldest_2 0 rfl rfl 2 (by decide) k_X2_dropOldest_19 rfl rfl dX2_dropOldest_16 ?_
  refine x_iload_n C dX2_dropOldest_19 rfl 2 rfl ?_
  refine x_iconst (v := (1 : Int32)) C dX2_dropOldest_20 (by decide) ?_
  refine x_isub C dX2_dropOldest_21 ?_
  refine x_topi (z := (0 : Int32)) (by decide) ?_
  refine x_aload_n C dX2_dropOldest_22 rfl 0 rfl ?_
  refine x_get (v := .ref (q 1)) C in_X2_dropOldest_2 0 rfl rfl 2 (by decide) k_X2_dropOldest_19 rfl rfl dX2_dropOldest_23 ?_
  refine x_iload_n C dX2_dropOldest_26 rfl 2 rfl ?_
  refine x_aald (v := (1 : Int32)) (j := 52) C 1 rfl rfl (by unfold vp_in; decide) rfl dX2_dropOldest_27 ?_
  refine x_aast (sh' := [.inr (.inl (2, [.inl 4, .inl 20, .inl 1, .inr (some false), .inl 2, .inr (some false), .inl 3])), .inr (.inr (.inl [some 52, some 52, some 68, some 84, some 100, some 116])), .inl 60, .inr (.inl (0, [.inr (some false), .inr (some false), .inr (some false), .inr (some false)])), .inr (.inl (1, [.inl 5, .inl 6, .inl 7, .inl 8, .inl 9, .inl 10, .inl 11, .inl 12, .inl 13, .inl 14, .inl 15, .inl 16, .inl 17, .inl 18, .inl 19, .inr (some false), .inr (some false)])), .inl 40, .inl 40, .inl 40, .inl 40, .inl 40, .inl 96, .inl 12, .inl 12, .inl 12, .inl 12, .inl 12, .inl 5, .inl 5, .inl 5, .inl 2, .inr (.inl (1, [.inl 21, .inl 22, .inl 23, .inl 24, .inl 25, .inl 26, .inl 27, .inl 28, .inl 29, .inl 30, .inl 31, .inl 32, .inl 33, .inl 34, .inl 35, .inr (some false), .inr (some false)])), .inl 40, .inl 40, .inl 40, .inl 40, .inl 40, .inl 96, .inl 12, .inl 12, .inl 12, .inl 12, .inl 12, .inl 5, .inl 5, .inl 5, .inl 2, .inr (.inl (1, [.inl 37, .inl 38, .inl 39, .inl 40, .inl 41, .inl 42, .inl 43, .inl 44, .inl 45, .inl 46, .inl 47, .inl 48, .inl 49, .inl 50, .inl 51, .inr (some false), .inr (some false)])), .inl 40, .inl 40, .inl 40, .inl 40, .inl 40, .inl 96, .inl 12, .inl 12, .inl 12, .inl 12, .inl 12, .inl 5, .inl 5, .inl 5, .inl 2, .inr (.inl (1, [.inl 53, .inl 54, .inl 55, .inl 56, .inl 57, .inl 58, .inl 59, .inl 60, .inl 61, .inl 62, .inl 63, .inl 64, .inl 65, .inl 66, .inl 67, .inr (some false), .inr (some false)])), .inl 40, .inl 40, .inl 40, .inl 40, .inl 40, .inl 96, .inl 12, .inl 12, .inl 12, .inl 12, .inl 12, .inl 5, .inl 5, .inl 5, .inl 2, .inr (.inl (1, [.inl 69, .inl 70, .inl 71, .inl 72, .inl 73, .inl 74, .inl 75, .inl 76, .inl 77, .inl 78, .inl 79, .inl 80, .inl 81, .inl 82, .inl 83, .inr (some false), .inr (some false)])), .inl 40, .inl 40, .inl 40, .inl 40, .inl 40, .inl 96, .inl 12, .inl 12, .inl 12, .inl 12, .inl 12, .inl 5, .inl 5, .inl 5, .inl 2, .inr (.inl (1, [.inl 85, .inl 86, .inl 87, .inl 88, .inl 89, .inl 90, .inl 91, .inl 92, .inl 93, .inl 94, .inl 95, .inl 96, .inl 97, .inl 98, .inl 99, .inr (some false), .inr (some false)])), .inl 40, .inl 40, .inl 40, .inl 40, .inl 40, .inl 96, .inl 12, .inl 12, .inl 12, .inl 12, .inl 12, .inl 5, .inl 5, .inl 5, .inl 2, .inr (.inl (1, [.inl 101, .inl 102, .inl 103, .inl 104, .inl 105, .inl 106, .inl 107, .inl 108, .inl 109, .inl 110, .inl 111, .inl 112, .inl 113, .inl 114, .inl 115, .inr (some false), .inr (some false)])), .inl 40, .inl 40, .inl 40, .inl 40, .inl 40, .inl 96, .inl 12, .inl 12, .inl 12, .inl 12, .inl 12, .inl 5, .inl 5, .inl 5, .inl 2, .inr (.inl (1, [.inl 117, .inl 118, .inl 119, .inl 120, .inl 121, .inl 122, .inl 123, .inl 124, .inl 125, .inl 126, .inl 127, .inl 128, .inl 129, .inl 130, .inl 131, .inr (some false), .inr (some false)])), .inl 40, .inl 40, .inl 40, .inl 40, .inl 40, .inl 96, .inl 12, .inl 12, .inl 12, .inl 12, .inl 12, .inl 5, .inl 5, .inl 5, .inl 2]) (v := (0 : Int32)) (n := 0) (j := 52) C hq 1 rfl rfl (by decide) (by unfold vp_in; decide) rfl rfl dX2_dropOldest_28 ?_
  refine x_iinc (v := (2 : Int32)) (lv' := [(0, .ref (q 0)), (1, .ref (q 36)), (2, .int (2 : Int32))]) C dX2_dropOldest_29 2 rfl (by decide) (by decide) [1, 2, 0] rfl ?_
  refine x_goto (tgt := 9) C dX2_dropOldest_32 (by decide) ?_
  refine x_iload_n C dX2_dropOldest_9 rfl 2 rfl ?_
  refine x_bipush (v := (6 : Int32)) C dX2_dropOldest_10 (by decide) ?_
  refine x_icmp_ge (tgt := 35) C dX2_dropOldest_12 (by decide) (fun c9 => absurd c9 (by decide)) (fun _ => ?_)
  refine x_aload_n C dX2_dropOldest_15 rfl 0 rfl ?_
  refine x_get (v := .ref (q 1)) C in_X2_dropOldest_2 0 rfl rfl 2 (by decide) k_X2_dropOldest_19 rfl rfl dX2_dropOldest_16 ?_
  refine x_iload_n C dX2_dropOldest_19 rfl 2 rfl ?_
  refine x_iconst (v := (1 : Int32)) C dX2_dropOldest_20 (by decide) ?_
  refine x_isub C dX2_dropOldest_21 ?_
  refine x_topi (z := (1 : Int32)) (by decide) ?_
  refine x_aload_n C dX2_dropOldest_22 rfl 0 rfl ?_
  refine x_get (v := .ref (q 1)) C in_X2_dropOldest_2 0 rfl rfl 2 (by decide) k_X2_dropOldest_19 rfl rfl dX2_dropOldest_23 ?_
  refine x_iload_n C dX2_dropOldest_26 rfl 2 rfl ?_
  refine x_aald (v := (2 : Int32)) (j := 68) C 1 rfl rfl (by unfold vp_in; decide) rfl dX2_dropOldest_27 ?_
  refine x_aast (sh := [.inr (.inl (2, [.inl 4, .inl 20, .inl 1, .inr (some false), .inl 2, .inr (some false), .inl 3])), .inr (.inr (.inl [some 52, some 52, some 68, some 84, some 100, some 116])), .inl 60, .inr (.inl (0, [.inr (some false), .inr (some false), .inr (some false), .inr (some false)])), .inr (.inl (1, [.inl 5, .inl 6, .inl 7, .inl 8, .inl 9, .inl 10, .inl 11, .inl 12, .inl 13, .inl 14, .inl 15, .inl 16, .inl 17, .inl 18, .inl 19, .inr (some false), .inr (some false)])), .inl 40, .inl 40, .inl 40, .inl 40, .inl 40, .inl 96, .inl 12, .inl 12, .inl 12, .inl 12, .inl 12, .inl 5, .inl 5, .inl 5, .inl 2, .inr (.inl (1, [.inl 21, .inl 22, .inl 23, .inl 24, .inl 25, .inl 26, .inl 27, .inl 28, .inl 29, .inl 30, .inl 31, .inl 32, .inl 33, .inl 34, .inl 35, .inr (some false), .inr (some false)])), .inl 40, .inl 40, .inl 40, .inl 40, .inl 40, .inl 96, .inl 12, .inl 12, .inl 12, .inl 12, .inl 12, .inl 5, .inl 5, .inl 5, .inl 2, .inr (.inl (1, [.inl 37, .inl 38, .inl 39, .inl 40, .inl 41, .inl 42, .inl 43, .inl 44, .inl 45, .inl 46, .inl 47, .inl 48, .inl 49, .inl 50, .inl 51, .inr (some false), .inr (some false)])), .inl 40, .inl 40, .inl 40, .inl 40, .inl 40, .inl 96, .inl 12, .inl 12, .inl 12, .inl 12, .inl 12, .inl 5, .inl 5, .inl 5, .inl 2, .inr (.inl (1, [.inl 53, .inl 54, .inl 55, .inl 56, .inl 57, .inl 58, .inl 59, .inl 60, .inl 61, .inl 62, .inl 63, .inl 64, .inl 65, .inl 66, .inl 67, .inr (some false), .inr (some false)])), .inl 40, .inl 40, .inl 40, .inl 40, .inl 40, .inl 96, .inl 12, .inl 12, .inl 12, .inl 12, .inl 12, .inl 5, .inl 5, .inl 5, .inl 2, .inr (.inl (1, [.inl 69, .inl 70, .inl 71, .inl 72, .inl 73, .inl 74, .inl 75, .inl 76, .inl 77, .inl 78, .inl 79, .inl 80, .inl 81, .inl 82, .inl 83, .inr (some false), .inr (some false)])), .inl 40, .inl 40, .inl 40, .inl 40, .inl 40, .inl 96, .inl 12, .inl 12, .inl 12, .inl 12, .inl 12, .inl 5, .inl 5, .inl 5, .inl 2, .inr (.inl (1, [.inl 85, .inl 86, .inl 87, .inl 88, .inl 89, .inl 90, .inl 91, .inl 92, .inl 93, .inl 94, .inl 95, .inl 96, .inl 97, .inl 98, .inl 99, .inr (some false), .inr (some false)])), .inl 40, .inl 40, .inl 40, .inl 40, .inl 40, .inl 96, .inl 12, .inl 12, .inl 12, .inl 12, .inl 12, .inl 5, .inl 5, .inl 5, .inl 2, .inr (.inl (1, [.inl 101, .inl 102, .inl 103, .inl 104, .inl 105, .inl 106, .inl 107, .inl 108, .inl 109, .inl 110, .inl 111, .inl 112, .inl 113, .inl 114, .inl 115, .inr (some false), .inr (some false)])), .inl 40, .inl 40, .inl 40, .inl 40, .inl 40, .inl 96, .inl 12, .inl 12, .inl 12, .inl 12, .inl 12, .inl 5, .inl 5, .inl 5, .inl 2, .inr (.inl (1, [.inl 117, .inl 118, .inl 119, .inl 120, .inl 121, .inl 122, .inl 123, .inl 124, .inl 125, .inl 126, .inl 127, .inl 128, .inl 129, .inl 130, .inl 131, .inr (some false), .inr (some false)])), .inl 40, .inl 40, .inl 40, .inl 40, .inl 40, .inl 96, .inl 12, .inl 12, .inl 12, .inl 12, .inl 12, .inl 5, .inl 5, .inl 5, .inl 2]) (sh' := [.inr (.inl (2, [.inl 4, .inl 20, .inl 1, .inr (some false), .inl 2, .inr (some false), .inl 3])), .inr (.inr (.inl [some 52, some 68, some 68, some 84, some 100, some 116])), .inl 60, .inr (.inl (0, [.inr (some false), .inr (some false), .inr (some false), .inr (some false)])), .inr (.inl (1, [.inl 5, .inl 6, .inl 7, .inl 8, .inl 9, .inl 10, .inl 11, .inl 12, .inl 13, .inl 14, .inl 15, .inl 16, .inl 17, .inl 18, .inl 19, .inr (some false), .inr (some false)])), .inl 40, .inl 40, .inl 40, .inl 40, .inl 40, .inl 96, .inl 12, .inl 12, .inl 12, .inl 12, .inl 12, .inl 5, .inl 5, .inl 5, .inl 2, .inr (.inl (1, [.inl 21, .inl 22, .inl 23, .inl 24, .inl 25, .inl 26, .inl 27, .inl 28, .inl 29, .inl 30, .inl 31, .inl 32, .inl 33, .inl 34, .inl 35, .inr (some false), .inr (some false)])), .inl 40, .inl 40, .inl 40, .inl 40, .inl 40, .inl 96, .inl 12, .inl 12, .inl 12, .inl 12, .inl 12, .inl 5, .inl 5, .inl 5, .inl 2, .inr (.inl (1, [.inl 37, .inl 38, .inl 39, .inl 40, .inl 41, .inl 42, .inl 43, .inl 44, .inl 45, .inl 46, .inl 47, .inl 48, .inl 49, .inl 50, .inl 51, .inr (some false), .inr (some false)])), .inl 40, .inl 40, .inl 40, .inl 40, .inl 40, .inl 96, .inl 12, .inl 12, .inl 12, .inl 12, .inl 12, .inl 5, .inl 5, .inl 5, .inl 2, .inr (.inl (1, [.inl 53, .inl 54, .inl 55, .inl 56, .inl 57, .inl 58, .inl 59, .inl 60, .inl 61, .inl 62, .inl 63, .inl 64, .inl 65, .inl 66, .inl 67, .inr (some false), .inr (some false)])), .inl 40, .inl 40, .inl 40, .inl 40, .inl 40, .inl 96, .inl 12, .inl 12, .inl 12, .inl 12, .inl 12, .inl 5, .inl 5, .inl 5, .inl 2, .inr (.inl (1, [.inl 69, .inl 70, .inl 71, .inl 72, .inl 73, .inl 74, .inl 75, .inl 76, .inl 77, .inl 78, .inl 79, .inl 80, .inl 81, .inl 82, .inl 83, .inr (some false), .inr (some false)])), .inl 40, .inl 40, .inl 40, .inl 40, .inl 40, .inl 96, .inl 12, .inl 12, .inl 12, .inl 12, .inl 12, .inl 5, .inl 5, .inl 5, .inl 2, .inr (.inl (1, [.inl 85, .inl 86, .inl 87, .inl 88, .inl 89, .inl 90, .inl 91, .inl 92, .inl 93, .inl 94, .inl 95, .inl 96, .inl 97, .inl 98, .inl 99, .inr (some false), .inr (some false)])), .inl 40, .inl 40, .inl 40, .inl 40, .inl 40, .inl 96, .inl 12, .inl 12, .inl 12, .inl 12, .inl 12, .inl 5, .inl 5, .inl 5, .inl 2, .inr (.inl (1, [.inl 101, .inl 102, .inl 103, .inl 104, .inl 105, .inl 106, .inl 107, .inl 108, .inl 109, .inl 110, .inl 111, .inl 112, .inl 113, .inl 114, .inl 115, .inr (some false), .inr (some false)])), .inl 40, .inl 40, .inl 40, .inl 40, .inl 40, .inl 96, .inl 12, .inl 12, .inl 12, .inl 12, .inl 12, .inl 5, .inl 5, .inl 5, .inl 2, .inr (.inl (1, [.inl 117, .inl 118, .inl 119, .inl 120, .inl 121, .inl 122, .inl 123, .inl 124, .inl 125, .inl 126, .inl 127, .inl 128, .inl 129, .inl 130, .inl 131, .inr (some false), .inr (some false)])), .inl 40, .inl 40, .inl 40, .inl 40, .inl 40, .inl 96, .inl 12, .inl 12, .inl 12, .inl 12, .inl 12, .inl 5, .inl 5, .inl 5, .inl 2]) (v := (1 : Int32)) (n := 1) (j := 68) C hq 1 rfl rfl (by decide) (by unfold vp_in; decide) rfl rfl dX2_dropOldest_28 ?_
  refine x_iinc (v := (3 : Int32)) (lv' := [(0, .ref (q 0)), (1, .ref (q 36)), (2, .int (3 : Int32))]) C dX2_dropOldest_29 2 rfl (by decide) (by decide) [1, 2, 0] rfl ?_
  refine x_goto (tgt := 9) C dX2_dropOldest_32 (by decide) ?_
  refine x_iload_n C dX2_dropOldest_9 rfl 2 rfl ?_
  refine x_bipush (v := (6 : Int32)) C dX2_dropOldest_10 (by decide) ?_
  refine x_icmp_ge (tgt := 35) C dX2_dropOldest_12 (by decide) (fun c9 => absurd c9 (by decide)) (fun _ => ?_)
  refine x_aload_n C dX2_dropOldest_15 rfl 0 rfl ?_
  refine x_get (v := .ref (q 1)) C in_X2_dropOldest_2 0 rfl rfl 2 (by decide) k_X2_dropOldest_19 rfl rfl dX2_dropOldest_16 ?_
  refine x_iload_n C dX2_dropOldest_19 rfl 2 rfl ?_
  refine x_iconst (v := (1 : Int32)) C dX2_dropOldest_20 (by decide) ?_
  refine x_isub C dX2_dropOldest_21 ?_
  refine x_topi (z := (2 : Int32)) (by decide) ?_
  refine x_aload_n C dX2_dropOldest_22 rfl 0 rfl ?_
  refine x_get (v := .ref (q 1)) C in_X2_dropOldest_2 0 rfl rfl 2 (by decide) k_X2_dropOldest_19 rfl rfl dX2_dropOldest_23 ?_
  refine x_iload_n C dX2_dropOldest_26 rfl 2 rfl ?_
  refine x_aald (v := (3 : Int32)) (j := 84) C 1 rfl rfl (by unfold vp_in; decide) rfl dX2_dropOldest_27 ?_
  refine x_aast (sh := [.inr (.inl (2, [.inl 4, .inl 20, .inl 1, .inr (some false), .inl 2, .inr (some false), .inl 3])), .inr (.inr (.inl [some 52, some 68, some 68, some 84, some 100, some 116])), .inl 60, .inr (.inl (0, [.inr (some false), .inr (some false), .inr (some false), .inr (some false)])), .inr (.inl (1, [.inl 5, .inl 6, .inl 7, .inl 8, .inl 9, .inl 10, .inl 11, .inl 12, .inl 13, .inl 14, .inl 15, .inl 16, .inl 17, .inl 18, .inl 19, .inr (some false), .inr (some false)])), .inl 40, .inl 40, .inl 40, .inl 40, .inl 40, .inl 96, .inl 12, .inl 12, .inl 12, .inl 12, .inl 12, .inl 5, .inl 5, .inl 5, .inl 2, .inr (.inl (1, [.inl 21, .inl 22, .inl 23, .inl 24, .inl 25, .inl 26, .inl 27, .inl 28, .inl 29, .inl 30, .inl 31, .inl 32, .inl 33, .inl 34, .inl 35, .inr (some false), .inr (some false)])), .inl 40, .inl 40, .inl 40, .inl 40, .inl 40, .inl 96, .inl 12, .inl 12, .inl 12, .inl 12, .inl 12, .inl 5, .inl 5, .inl 5, .inl 2, .inr (.inl (1, [.inl 37, .inl 38, .inl 39, .inl 40, .inl 41, .inl 42, .inl 43, .inl 44, .inl 45, .inl 46, .inl 47, .inl 48, .inl 49, .inl 50, .inl 51, .inr (some false), .inr (some false)])), .inl 40, .inl 40, .inl 40, .inl 40, .inl 40, .inl 96, .inl 12, .inl 12, .inl 12, .inl 12, .inl 12, .inl 5, .inl 5, .inl 5, .inl 2, .inr (.inl (1, [.inl 53, .inl 54, .inl 55, .inl 56, .inl 57, .inl 58, .inl 59, .inl 60, .inl 61, .inl 62, .inl 63, .inl 64, .inl 65, .inl 66, .inl 67, .inr (some false), .inr (some false)])), .inl 40, .inl 40, .inl 40, .inl 40, .inl 40, .inl 96, .inl 12, .inl 12, .inl 12, .inl 12, .inl 12, .inl 5, .inl 5, .inl 5, .inl 2, .inr (.inl (1, [.inl 69, .inl 70, .inl 71, .inl 72, .inl 73, .inl 74, .inl 75, .inl 76, .inl 77, .inl 78, .inl 79, .inl 80, .inl 81, .inl 82, .inl 83, .inr (some false), .inr (some false)])), .inl 40, .inl 40, .inl 40, .inl 40, .inl 40, .inl 96, .inl 12, .inl 12, .inl 12, .inl 12, .inl 12, .inl 5, .inl 5, .inl 5, .inl 2, .inr (.inl (1, [.inl 85, .inl 86, .inl 87, .inl 88, .inl 89, .inl 90, .inl 91, .inl 92, .inl 93, .inl 94, .inl 95, .inl 96, .inl 97, .inl 98, .inl 99, .inr (some false), .inr (some false)])), .inl 40, .inl 40, .inl 40, .inl 40, .inl 40, .inl 96, .inl 12, .inl 12, .inl 12, .inl 12, .inl 12, .inl 5, .inl 5, .inl 5, .inl 2, .inr (.inl (1, [.inl 101, .inl 102, .inl 103, .inl 104, .inl 105, .inl 106, .inl 107, .inl 108, .inl 109, .inl 110, .inl 111, .inl 112, .inl 113, .inl 114, .inl 115, .inr (some false), .inr (some false)])), .inl 40, .inl 40, .inl 40, .inl 40, .inl 40, .inl 96, .inl 12, .inl 12, .inl 12, .inl 12, .inl 12, .inl 5, .inl 5, .inl 5, .inl 2, .inr (.inl (1, [.inl 117, .inl 118, .inl 119, .inl 120, .inl 121, .inl 122, .inl 123, .inl 124, .inl 125, .inl 126, .inl 127, .inl 128, .inl 129, .inl 130, .inl 131, .inr (some false), .inr (some false)])), .inl 40, .inl 40, .inl 40, .inl 40, .inl 40, .inl 96, .inl 12, .inl 12, .inl 12, .inl 12, .inl 12, .inl 5, .inl 5, .inl 5, .inl 2]) (sh' := [.inr (.inl (2, [.inl 4, .inl 20, .inl 1, .inr (some false), .inl 2, .inr (some false), .inl 3])), .inr (.inr (.inl [some 52, some 68, some 84, some 84, some 100, some 116])), .inl 60, .inr (.inl (0, [.inr (some false), .inr (some false), .inr (some false), .inr (some false)])), .inr (.inl (1, [.inl 5, .inl 6, .inl 7, .inl 8, .inl 9, .inl 10, .inl 11, .inl 12, .inl 13, .inl 14, .inl 15, .inl 16, .inl 17, .inl 18, .inl 19, .inr (some false), .inr (some false)])), .inl 40, .inl 40, .inl 40, .inl 40, .inl 40, .inl 96, .inl 12, .inl 12, .inl 12, .inl 12, .inl 12, .inl 5, .inl 5, .inl 5, .inl 2, .inr (.inl (1, [.inl 21, .inl 22, .inl 23, .inl 24, .inl 25, .inl 26, .inl 27, .inl 28, .inl 29, .inl 30, .inl 31, .inl 32, .inl 33, .inl 34, .inl 35, .inr (some false), .inr (some false)])), .inl 40, .inl 40, .inl 40, .inl 40, .inl 40, .inl 96, .inl 12, .inl 12, .inl 12, .inl 12, .inl 12, .inl 5, .inl 5, .inl 5, .inl 2, .inr (.inl (1, [.inl 37, .inl 38, .inl 39, .inl 40, .inl 41, .inl 42, .inl 43, .inl 44, .inl 45, .inl 46, .inl 47, .inl 48, .inl 49, .inl 50, .inl 51, .inr (some false), .inr (some false)])), .inl 40, .inl 40, .inl 40, .inl 40, .inl 40, .inl 96, .inl 12, .inl 12, .inl 12, .inl 12, .inl 12, .inl 5, .inl 5, .inl 5, .inl 2, .inr (.inl (1, [.inl 53, .inl 54, .inl 55, .inl 56, .inl 57, .inl 58, .inl 59, .inl 60, .inl 61, .inl 62, .inl 63, .inl 64, .inl 65, .inl 66, .inl 67, .inr (some false), .inr (some false)])), .inl 40, .inl 40, .inl 40, .inl 40, .inl 40, .inl 96, .inl 12, .inl 12, .inl 12, .inl 12, .inl 12, .inl 5, .inl 5, .inl 5, .inl 2, .inr (.inl (1, [.inl 69, .inl 70, .inl 71, .inl 72, .inl 73, .inl 74, .inl 75, .inl 76, .inl 77, .inl 78, .inl 79, .inl 80, .inl 81, .inl 82, .inl 83, .inr (some false), .inr (some false)])), .inl 40, .inl 40, .inl 40, .inl 40, .inl 40, .inl 96, .inl 12, .inl 12, .inl 12, .inl 12, .inl 12, .inl 5, .inl 5, .inl 5, .inl 2, .inr (.inl (1, [.inl 85, .inl 86, .inl 87, .inl 88, .inl 89, .inl 90, .inl 91, .inl 92, .inl 93, .inl 94, .inl 95, .inl 96, .inl 97, .inl 98, .inl 99, .inr (some false), .inr (some false)])), .inl 40, .inl 40, .inl 40, .inl 40, .inl 40, .inl 96, .inl 12, .inl 12, .inl 12, .inl 12, .inl 12, .inl 5, .inl 5, .inl 5, .inl 2, .inr (.inl (1, [.inl 101, .inl 102, .inl 103, .inl 104, .inl 105, .inl 106, .inl 107, .inl 108, .inl 109, .inl 110, .inl 111, .inl 112, .inl 113, .inl 114, .inl 115, .inr (some false), .inr (some false)])), .inl 40, .inl 40, .inl 40, .inl 40, .inl 40, .inl 96, .inl 12, .inl 12, .inl 12, .inl 12, .inl 12, .inl 5, .inl 5, .inl 5, .inl 2, .inr (.inl (1, [.inl 117, .inl 118, .inl 119, .inl 120, .inl 121, .inl 122, .inl 123, .inl 124, .inl 125, .inl 126, .inl 127, .inl 128, .inl 129, .inl 130, .inl 131, .inr (some false), .inr (some false)])), .inl 40, .inl 40, .inl 40, .inl 40, .inl 40, .inl 96, .inl 12, .inl 12, .inl 12, .inl 12, .inl 12, .inl 5, .inl 5, .inl 5, .inl 2]) (v := (2 : Int32)) (n := 2) (j := 84) C hq 1 rfl rfl (by decide) (by unfold vp_in; decide) rfl rfl dX2_dropOldest_28 ?_
  refine x_iinc (v := (4 : Int32)) (lv' := [(0, .ref (q 0)), (1, .ref (q 36)), (2, .int (4 : Int32))]) C dX2_dropOldest_29 2 rfl (by decide) (by decide) [1, 2, 0] rfl ?_
  refine x_goto (tgt := 9) C dX2_dropOldest_32 (by decide) ?_
  refine x_iload_n C dX2_dropOldest_9 rfl 2 rfl ?_
  refine x_bipush (v := (6 : Int32)) C dX2_dropOldest_10 (by decide) ?_
  refine x_icmp_ge (tgt := 35) C dX2_dropOldest_12 (by decide) (fun c9 => absurd c9 (by decide)) (fun _ => ?_)
  refine x_aload_n C dX2_dropOldest_15 rfl 0 rfl ?_
  refine x_get (v := .ref (q 1)) C in_X2_dropOldest_2 0 rfl rfl 2 (by decide) k_X2_dropOldest_19 rfl rfl dX2_dropOldest_16 ?_
  refine x_iload_n C dX2_dropOldest_19 rfl 2 rfl ?_
  refine x_iconst (v := (1 : Int32)) C dX2_dropOldest_20 (by decide) ?_
  refine x_isub C dX2_dropOldest_21 ?_
  refine x_topi (z := (3 : Int32)) (by decide) ?_
  refine x_aload_n C dX2_dropOldest_22 rfl 0 rfl ?_
  refine x_get (v := .ref (q 1)) C in_X2_dropOldest_2 0 rfl rfl 2 (by decide) k_X2_dropOldest_19 rfl rfl dX2_dropOldest_23 ?_
  refine x_iload_n C dX2_dropOldest_26 rfl 2 rfl ?_
  refine x_aald (v := (4 : Int32)) (j := 100) C 1 rfl rfl (by unfold vp_in; decide) rfl dX2_dropOldest_27 ?_
  refine x_aast (sh := [.inr (.inl (2, [.inl 4, .inl 20, .inl 1, .inr (some false), .inl 2, .inr (some false), .inl 3])), .inr (.inr (.inl [some 52, some 68, some 84, some 84, some 100, some 116])), .inl 60, .inr (.inl (0, [.inr (some false), .inr (some false), .inr (some false), .inr (some false)])), .inr (.inl (1, [.inl 5, .inl 6, .inl 7, .inl 8, .inl 9, .inl 10, .inl 11, .inl 12, .inl 13, .inl 14, .inl 15, .inl 16, .inl 17, .inl 18, .inl 19, .inr (some false), .inr (some false)])), .inl 40, .inl 40, .inl 40, .inl 40, .inl 40, .inl 96, .inl 12, .inl 12, .inl 12, .inl 12, .inl 12, .inl 5, .inl 5, .inl 5, .inl 2, .inr (.inl (1, [.inl 21, .inl 22, .inl 23, .inl 24, .inl 25, .inl 26, .inl 27, .inl 28, .inl 29, .inl 30, .inl 31, .inl 32, .inl 33, .inl 34, .inl 35, .inr (some false), .inr (some false)])), .inl 40, .inl 40, .inl 40, .inl 40, .inl 40, .inl 96, .inl 12, .inl 12, .inl 12, .inl 12, .inl 12, .inl 5, .inl 5, .inl 5, .inl 2, .inr (.inl (1, [.inl 37, .inl 38, .inl 39, .inl 40, .inl 41, .inl 42, .inl 43, .inl 44, .inl 45, .inl 46, .inl 47, .inl 48, .inl 49, .inl 50, .inl 51, .inr (some false), .inr (some false)])), .inl 40, .inl 40, .inl 40, .inl 40, .inl 40, .inl 96, .inl 12, .inl 12, .inl 12, .inl 12, .inl 12, .inl 5, .inl 5, .inl 5, .inl 2, .inr (.inl (1, [.inl 53, .inl 54, .inl 55, .inl 56, .inl 57, .inl 58, .inl 59, .inl 60, .inl 61, .inl 62, .inl 63, .inl 64, .inl 65, .inl 66, .inl 67, .inr (some false), .inr (some false)])), .inl 40, .inl 40, .inl 40, .inl 40, .inl 40, .inl 96, .inl 12, .inl 12, .inl 12, .inl 12, .inl 12, .inl 5, .inl 5, .inl 5, .inl 2, .inr (.inl (1, [.inl 69, .inl 70, .inl 71, .inl 72, .inl 73, .inl 74, .inl 75, .inl 76, .inl 77, .inl 78, .inl 79, .inl 80, .inl 81, .inl 82, .inl 83, .inr (some false), .inr (some false)])), .inl 40, .inl 40, .inl 40, .inl 40, .inl 40, .inl 96, .inl 12, .inl 12, .inl 12, .inl 12, .inl 12, .inl 5, .inl 5, .inl 5, .inl 2, .inr (.inl (1, [.inl 85, .inl 86, .inl 87, .inl 88, .inl 89, .inl 90, .inl 91, .inl 92, .inl 93, .inl 94, .inl 95, .inl 96, .inl 97, .inl 98, .inl 99, .inr (some false), .inr (some false)])), .inl 40, .inl 40, .inl 40, .inl 40, .inl 40, .inl 96, .inl 12, .inl 12, .inl 12, .inl 12, .inl 12, .inl 5, .inl 5, .inl 5, .inl 2, .inr (.inl (1, [.inl 101, .inl 102, .inl 103, .inl 104, .inl 105, .inl 106, .inl 107, .inl 108, .inl 109, .inl 110, .inl 111, .inl 112, .inl 113, .inl 114, .inl 115, .inr (some false), .inr (some false)])), .inl 40, .inl 40, .inl 40, .inl 40, .inl 40, .inl 96, .inl 12, .inl 12, .inl 12, .inl 12, .inl 12, .inl 5, .inl 5, .inl 5, .inl 2, .inr (.inl (1, [.inl 117, .inl 118, .inl 119, .inl 120, .inl 121, .inl 122, .inl 123, .inl 124, .inl 125, .inl 126, .inl 127, .inl 128, .inl 129, .inl 130, .inl 131, .inr (some false), .inr (some false)])), .inl 40, .inl 40, .inl 40, .inl 40, .inl 40, .inl 96, .inl 12, .inl 12, .inl 12, .inl 12, .inl 12, .inl 5, .inl 5, .inl 5, .inl 2]) (sh' := [.inr (.inl (2, [.inl 4, .inl 20, .inl 1, .inr (some false), .inl 2, .inr (some false), .inl 3])), .inr (.inr (.inl [some 52, some 68, some 84, some 100, some 100, some 116])), .inl 60, .inr (.inl (0, [.inr (some false), .inr (some false), .inr (some false), .inr (some false)])), .inr (.inl (1, [.inl 5, .inl 6, .inl 7, .inl 8, .inl 9, .inl 10, .inl 11, .inl 12, .inl 13, .inl 14, .inl 15, .inl 16, .inl 17, .inl 18, .inl 19, .inr (some false), .inr (some false)])), .inl 40, .inl 40, .inl 40, .inl 40, .inl 40, .inl 96, .inl 12, .inl 12, .inl 12, .inl 12, .inl 12, .inl 5, .inl 5, .inl 5, .inl 2, .inr (.inl (1, [.inl 21, .inl 22, .inl 23, .inl 24, .inl 25, .inl 26, .inl 27, .inl 28, .inl 29, .inl 30, .inl 31, .inl 32, .inl 33, .inl 34, .inl 35, .inr (some false), .inr (some false)])), .inl 40, .inl 40, .inl 40, .inl 40, .inl 40, .inl 96, .inl 12, .inl 12, .inl 12, .inl 12, .inl 12, .inl 5, .inl 5, .inl 5, .inl 2, .inr (.inl (1, [.inl 37, .inl 38, .inl 39, .inl 40, .inl 41, .inl 42, .inl 43, .inl 44, .inl 45, .inl 46, .inl 47, .inl 48, .inl 49, .inl 50, .inl 51, .inr (some false), .inr (some false)])), .inl 40, .inl 40, .inl 40, .inl 40, .inl 40, .inl 96, .inl 12, .inl 12, .inl 12, .inl 12, .inl 12, .inl 5, .inl 5, .inl 5, .inl 2, .inr (.inl (1, [.inl 53, .inl 54, .inl 55, .inl 56, .inl 57, .inl 58, .inl 59, .inl 60, .inl 61, .inl 62, .inl 63, .inl 64, .inl 65, .inl 66, .inl 67, .inr (some false), .inr (some false)])), .inl 40, .inl 40, .inl 40, .inl 40, .inl 40, .inl 96, .inl 12, .inl 12, .inl 12, .inl 12, .inl 12, .inl 5, .inl 5, .inl 5, .inl 2, .inr (.inl (1, [.inl 69, .inl 70, .inl 71, .inl 72, .inl 73, .inl 74, .inl 75, .inl 76, .inl 77, .inl 78, .inl 79, .inl 80, .inl 81, .inl 82, .inl 83, .inr (some false), .inr (some false)])), .inl 40, .inl 40, .inl 40, .inl 40, .inl 40, .inl 96, .inl 12, .inl 12, .inl 12, .inl 12, .inl 12, .inl 5, .inl 5, .inl 5, .inl 2, .inr (.inl (1, [.inl 85, .inl 86, .inl 87, .inl 88, .inl 89, .inl 90, .inl 91, .inl 92, .inl 93, .inl 94, .inl 95, .inl 96, .inl 97, .inl 98, .inl 99, .inr (some false), .inr (some false)])), .inl 40, .inl 40, .inl 40, .inl 40, .inl 40, .inl 96, .inl 12, .inl 12, .inl 12, .inl 12, .inl 12, .inl 5, .inl 5, .inl 5, .inl 2, .inr (.inl (1, [.inl 101, .inl 102, .inl 103, .inl 104, .inl 105, .inl 106, .inl 107, .inl 108, .inl 109, .inl 110, .inl 111, .inl 112, .inl 113, .inl 114, .inl 115, .inr (some false), .inr (some false)])), .inl 40, .inl 40, .inl 40, .inl 40, .inl 40, .inl 96, .inl 12, .inl 12, .inl 12, .inl 12, .inl 12, .inl 5, .inl 5, .inl 5, .inl 2, .inr (.inl (1, [.inl 117, .inl 118, .inl 119, .inl 120, .inl 121, .inl 122, .inl 123, .inl 124, .inl 125, .inl 126, .inl 127, .inl 128, .inl 129, .inl 130, .inl 131, .inr (some false), .inr (some false)])), .inl 40, .inl 40, .inl 40, .inl 40, .inl 40, .inl 96, .inl 12, .inl 12, .inl 12, .inl 12, .inl 12, .inl 5, .inl 5, .inl 5, .inl 2]) (v := (3 : Int32)) (n := 3) (j := 100) C hq 1 rfl rfl (by decide) (by unfold vp_in; decide) rfl rfl dX2_dropOldest_28 ?_
  refine x_iinc (v := (5 : Int32)) (lv' := [(0, .ref (q 0)), (1, .ref (q 36)), (2, .int (5 : Int32))]) C dX2_dropOldest_29 2 rfl (by decide) (by decide) [1, 2, 0] rfl ?_
  refine x_goto (tgt := 9) C dX2_dropOldest_32 (by decide) ?_
  refine x_iload_n C dX2_dropOldest_9 rfl 2 rfl ?_
  refine x_bipush (v := (6 : Int32)) C dX2_dropOldest_10 (by decide) ?_
  refine x_icmp_ge (tgt := 35) C dX2_dropOldest_12 (by decide) (fun c9 => absurd c9 (by decide)) (fun _ => ?_)
  refine x_aload_n C dX2_dropOldest_15 rfl 0 rfl ?_
  refine x_get (v := .ref (q 1)) C in_X2_dropOldest_2 0 rfl rfl 2 (by decide) k_X2_dropOldest_19 rfl rfl dX2_dropOldest_16 ?_
  refine x_iload_n C dX2_dropOldest_19 rfl 2 rfl ?_
  refine x_iconst (v := (1 : Int32)) C dX2_dropOldest_20 (by decide) ?_
  refine x_isub C dX2_dropOldest_21 ?_
  refine x_topi (z := (4 : Int32)) (by decide) ?_
  refine x_aload_n C dX2_dropOldest_22 rfl 0 rfl ?_
  refine x_get (v := .ref (q 1)) C in_X2_dropOldest_2 0 rfl rfl 2 (by decide) k_X2_dropOldest_19 rfl rfl dX2_dropOldest_23 ?_
  refine x_iload_n C dX2_dropOldest_26 rfl 2 rfl ?_
  refine x_aald (v := (5 : Int32)) (j := 116) C 1 rfl rfl (by unfold vp_in; decide) rfl dX2_dropOldest_27 ?_
  refine x_aast (sh := [.inr (.inl (2, [.inl 4, .inl 20, .inl 1, .inr (some false), .inl 2, .inr (some false), .inl 3])), .inr (.inr (.inl [some 52, some 68, some 84, some 100, some 100, some 116])), .inl 60, .inr (.inl (0, [.inr (some false), .inr (some false), .inr (some false), .inr (some false)])), .inr (.inl (1, [.inl 5, .inl 6, .inl 7, .inl 8, .inl 9, .inl 10, .inl 11, .inl 12, .inl 13, .inl 14, .inl 15, .inl 16, .inl 17, .inl 18, .inl 19, .inr (some false), .inr (some false)])), .inl 40, .inl 40, .inl 40, .inl 40, .inl 40, .inl 96, .inl 12, .inl 12, .inl 12, .inl 12, .inl 12, .inl 5, .inl 5, .inl 5, .inl 2, .inr (.inl (1, [.inl 21, .inl 22, .inl 23, .inl 24, .inl 25, .inl 26, .inl 27, .inl 28, .inl 29, .inl 30, .inl 31, .inl 32, .inl 33, .inl 34, .inl 35, .inr (some false), .inr (some false)])), .inl 40, .inl 40, .inl 40, .inl 40, .inl 40, .inl 96, .inl 12, .inl 12, .inl 12, .inl 12, .inl 12, .inl 5, .inl 5, .inl 5, .inl 2, .inr (.inl (1, [.inl 37, .inl 38, .inl 39, .inl 40, .inl 41, .inl 42, .inl 43, .inl 44, .inl 45, .inl 46, .inl 47, .inl 48, .inl 49, .inl 50, .inl 51, .inr (some false), .inr (some false)])), .inl 40, .inl 40, .inl 40, .inl 40, .inl 40, .inl 96, .inl 12, .inl 12, .inl 12, .inl 12, .inl 12, .inl 5, .inl 5, .inl 5, .inl 2, .inr (.inl (1, [.inl 53, .inl 54, .inl 55, .inl 56, .inl 57, .inl 58, .inl 59, .inl 60, .inl 61, .inl 62, .inl 63, .inl 64, .inl 65, .inl 66, .inl 67, .inr (some false), .inr (some false)])), .inl 40, .inl 40, .inl 40, .inl 40, .inl 40, .inl 96, .inl 12, .inl 12, .inl 12, .inl 12, .inl 12, .inl 5, .inl 5, .inl 5, .inl 2, .inr (.inl (1, [.inl 69, .inl 70, .inl 71, .inl 72, .inl 73, .inl 74, .inl 75, .inl 76, .inl 77, .inl 78, .inl 79, .inl 80, .inl 81, .inl 82, .inl 83, .inr (some false), .inr (some false)])), .inl 40, .inl 40, .inl 40, .inl 40, .inl 40, .inl 96, .inl 12, .inl 12, .inl 12, .inl 12, .inl 12, .inl 5, .inl 5, .inl 5, .inl 2, .inr (.inl (1, [.inl 85, .inl 86, .inl 87, .inl 88, .inl 89, .inl 90, .inl 91, .inl 92, .inl 93, .inl 94, .inl 95, .inl 96, .inl 97, .inl 98, .inl 99, .inr (some false), .inr (some false)])), .inl 40, .inl 40, .inl 40, .inl 40, .inl 40, .inl 96, .inl 12, .inl 12, .inl 12, .inl 12, .inl 12, .inl 5, .inl 5, .inl 5, .inl 2, .inr (.inl (1, [.inl 101, .inl 102, .inl 103, .inl 104, .inl 105, .inl 106, .inl 107, .inl 108, .inl 109, .inl 110, .inl 111, .inl 112, .inl 113, .inl 114, .inl 115, .inr (some false), .inr (some false)])), .inl 40, .inl 40, .inl 40, .inl 40, .inl 40, .inl 96, .inl 12, .inl 12, .inl 12, .inl 12, .inl 12, .inl 5, .inl 5, .inl 5, .inl 2, .inr (.inl (1, [.inl 117, .inl 118, .inl 119, .inl 120, .inl 121, .inl 122, .inl 123, .inl 124, .inl 125, .inl 126, .inl 127, .inl 128, .inl 129, .inl 130, .inl 131, .inr (some false), .inr (some false)])), .inl 40, .inl 40, .inl 40, .inl 40, .inl 40, .inl 96, .inl 12, .inl 12, .inl 12, .inl 12, .inl 12, .inl 5, .inl 5, .inl 5, .inl 2]) (sh' := [.inr (.inl (2, [.inl 4, .inl 20, .inl 1, .inr (some false), .inl 2, .inr (some false), .inl 3])), .inr (.inr (.inl [some 52, some 68, some 84, some 100, some 116, some 116])), .inl 60, .inr (.inl (0, [.inr (some false), .inr (some false), .inr (some false), .inr (some false)])), .inr (.inl (1, [.inl 5, .inl 6, .inl 7, .inl 8, .inl 9, .inl 10, .inl 11, .inl 12, .inl 13, .inl 14, .inl 15, .inl 16, .inl 17, .inl 18, .inl 19, .inr (some false), .inr (some false)])), .inl 40, .inl 40, .inl 40, .inl 40, .inl 40, .inl 96, .inl 12, .inl 12, .inl 12, .inl 12, .inl 12, .inl 5, .inl 5, .inl 5, .inl 2, .inr (.inl (1, [.inl 21, .inl 22, .inl 23, .inl 24, .inl 25, .inl 26, .inl 27, .inl 28, .inl 29, .inl 30, .inl 31, .inl 32, .inl 33, .inl 34, .inl 35, .inr (some false), .inr (some false)])), .inl 40, .inl 40, .inl 40, .inl 40, .inl 40, .inl 96, .inl 12, .inl 12, .inl 12, .inl 12, .inl 12, .inl 5, .inl 5, .inl 5, .inl 2, .inr (.inl (1, [.inl 37, .inl 38, .inl 39, .inl 40, .inl 41, .inl 42, .inl 43, .inl 44, .inl 45, .inl 46, .inl 47, .inl 48, .inl 49, .inl 50, .inl 51, .inr (some false), .inr (some false)])), .inl 40, .inl 40, .inl 40, .inl 40, .inl 40, .inl 96, .inl 12, .inl 12, .inl 12, .inl 12, .inl 12, .inl 5, .inl 5, .inl 5, .inl 2, .inr (.inl (1, [.inl 53, .inl 54, .inl 55, .inl 56, .inl 57, .inl 58, .inl 59, .inl 60, .inl 61, .inl 62, .inl 63, .inl 64, .inl 65, .inl 66, .inl 67, .inr (some false), .inr (some false)])), .inl 40, .inl 40, .inl 40, .inl 40, .inl 40, .inl 96, .inl 12, .inl 12, .inl 12, .inl 12, .inl 12, .inl 5, .inl 5, .inl 5, .inl 2, .inr (.inl (1, [.inl 69, .inl 70, .inl 71, .inl 72, .inl 73, .inl 74, .inl 75, .inl 76, .inl 77, .inl 78, .inl 79, .inl 80, .inl 81, .inl 82, .inl 83, .inr (some false), .inr (some false)])), .inl 40, .inl 40, .inl 40, .inl 40, .inl 40, .inl 96, .inl 12, .inl 12, .inl 12, .inl 12, .inl 12, .inl 5, .inl 5, .inl 5, .inl 2, .inr (.inl (1, [.inl 85, .inl 86, .inl 87, .inl 88, .inl 89, .inl 90, .inl 91, .inl 92, .inl 93, .inl 94, .inl 95, .inl 96, .inl 97, .inl 98, .inl 99, .inr (some false), .inr (some false)])), .inl 40, .inl 40, .inl 40, .inl 40, .inl 40, .inl 96, .inl 12, .inl 12, .inl 12, .inl 12, .inl 12, .inl 5, .inl 5, .inl 5, .inl 2, .inr (.inl (1, [.inl 101, .inl 102, .inl 103, .inl 104, .inl 105, .inl 106, .inl 107, .inl 108, .inl 109, .inl 110, .inl 111, .inl 112, .inl 113, .inl 114, .inl 115, .inr (some false), .inr (some false)])), .inl 40, .inl 40, .inl 40, .inl 40, .inl 40, .inl 96, .inl 12, .inl 12, .inl 12, .inl 12, .inl 12, .inl 5, .inl 5, .inl 5, .inl 2, .inr (.inl (1, [.inl 117, .inl 118, .inl 119, .inl 120, .inl 121, .inl 122, .inl 123, .inl 124, .inl 125, .inl 126, .inl 127, .inl 128, .inl 129, .inl 130, .inl 131, .inr (some false), .inr (some false)])), .inl 40, .inl 40, .inl 40, .inl 40, .inl 40, .inl 96, .inl 12, .inl 12, .inl 12, .inl 12, .inl 12, .inl 5, .inl 5, .inl 5, .inl 2]) (v := (4 : Int32)) (n := 4) (j := 116) C hq 1 rfl rfl (by decide) (by unfold vp_in; decide) rfl rfl dX2_dropOldest_28 ?_
  refine x_iinc (v := (6 : Int32)) (lv' := [(0, .ref (q 0)), (1, .ref (q 36)), (2, .int (6 : Int32))]) C dX2_dropOldest_29 2 rfl (by decide) (by decide) [1, 2, 0] rfl ?_
  refine x_goto (tgt := 9) C dX2_dropOldest_32 (by decide) ?_
  refine x_iload_n C dX2_dropOldest_9 rfl 2 rfl ?_
  refine x_bipush (v := (6 : Int32)) C dX2_dropOldest_10 (by decide) ?_
  refine x_icmp_ge (tgt := 35) C dX2_dropOldest_12 (by decide) (fun _ => ?_) (fun c9 => absurd c9 (by decide))
  refine x_aload_n C dX2_dropOldest_35 rfl 0 rfl ?_
  refine x_get (v := .ref (q 1)) C in_X2_dropOldest_2 0 rfl rfl 2 (by decide) k_X2_dropOldest_19 rfl rfl dX2_dropOldest_36 ?_
  refine x_iconst (v := (5 : Int32)) C dX2_dropOldest_39 (by decide) ?_
  refine x_aload_n C dX2_dropOldest_40 rfl 1 rfl ?_
  refine x_aast (sh := [.inr (.inl (2, [.inl 4, .inl 20, .inl 1, .inr (some false), .inl 2, .inr (some false), .inl 3])), .inr (.inr (.inl [some 52, some 68, some 84, some 100, some 116, some 116])), .inl 60, .inr (.inl (0, [.inr (some false), .inr (some false), .inr (some false), .inr (some false)])), .inr (.inl (1, [.inl 5, .inl 6, .inl 7, .inl 8, .inl 9, .inl 10, .inl 11, .inl 12, .inl 13, .inl 14, .inl 15, .inl 16, .inl 17, .inl 18, .inl 19, .inr (some false), .inr (some false)])), .inl 40, .inl 40, .inl 40, .inl 40, .inl 40, .inl 96, .inl 12, .inl 12, .inl 12, .inl 12, .inl 12, .inl 5, .inl 5, .inl 5, .inl 2, .inr (.inl (1, [.inl 21, .inl 22, .inl 23, .inl 24, .inl 25, .inl 26, .inl 27, .inl 28, .inl 29, .inl 30, .inl 31, .inl 32, .inl 33, .inl 34, .inl 35, .inr (some false), .inr (some false)])), .inl 40, .inl 40, .inl 40, .inl 40, .inl 40, .inl 96, .inl 12, .inl 12, .inl 12, .inl 12, .inl 12, .inl 5, .inl 5, .inl 5, .inl 2, .inr (.inl (1, [.inl 37, .inl 38, .inl 39, .inl 40, .inl 41, .inl 42, .inl 43, .inl 44, .inl 45, .inl 46, .inl 47, .inl 48, .inl 49, .inl 50, .inl 51, .inr (some false), .inr (some false)])), .inl 40, .inl 40, .inl 40, .inl 40, .inl 40, .inl 96, .inl 12, .inl 12, .inl 12, .inl 12, .inl 12, .inl 5, .inl 5, .inl 5, .inl 2, .inr (.inl (1, [.inl 53, .inl 54, .inl 55, .inl 56, .inl 57, .inl 58, .inl 59, .inl 60, .inl 61, .inl 62, .inl 63, .inl 64, .inl 65, .inl 66, .inl 67, .inr (some false), .inr (some false)])), .inl 40, .inl 40, .inl 40, .inl 40, .inl 40, .inl 96, .inl 12, .inl 12, .inl 12, .inl 12, .inl 12, .inl 5, .inl 5, .inl 5, .inl 2, .inr (.inl (1, [.inl 69, .inl 70, .inl 71, .inl 72, .inl 73, .inl 74, .inl 75, .inl 76, .inl 77, .inl 78, .inl 79, .inl 80, .inl 81, .inl 82, .inl 83, .inr (some false), .inr (some false)])), .inl 40, .inl 40, .inl 40, .inl 40, .inl 40, .inl 96, .inl 12, .inl 12, .inl 12, .inl 12, .inl 12, .inl 5, .inl 5, .inl 5, .inl 2, .inr (.inl (1, [.inl 85, .inl 86, .inl 87, .inl 88, .inl 89, .inl 90, .inl 91, .inl 92, .inl 93, .inl 94, .inl 95, .inl 96, .inl 97, .inl 98, .inl 99, .inr (some false), .inr (some false)])), .inl 40, .inl 40, .inl 40, .inl 40, .inl 40, .inl 96, .inl 12, .inl 12, .inl 12, .inl 12, .inl 12, .inl 5, .inl 5, .inl 5, .inl 2, .inr (.inl (1, [.inl 101, .inl 102, .inl 103, .inl 104, .inl 105, .inl 106, .inl 107, .inl 108, .inl 109, .inl 110, .inl 111, .inl 112, .inl 113, .inl 114, .inl 115, .inr (some false), .inr (some false)])), .inl 40, .inl 40, .inl 40, .inl 40, .inl 40, .inl 96, .inl 12, .inl 12, .inl 12, .inl 12, .inl 12, .inl 5, .inl 5, .inl 5, .inl 2, .inr (.inl (1, [.inl 117, .inl 118, .inl 119, .inl 120, .inl 121, .inl 122, .inl 123, .inl 124, .inl 125, .inl 126, .inl 127, .inl 128, .inl 129, .inl 130, .inl 131, .inr (some false), .inr (some false)])), .inl 40, .inl 40, .inl 40, .inl 40, .inl 40, .inl 96, .inl 12, .inl 12, .inl 12, .inl 12, .inl 12, .inl 5, .inl 5, .inl 5, .inl 2]) (sh' := [.inr (.inl (2, [.inl 4, .inl 20, .inl 1, .inr (some false), .inl 2, .inr (some false), .inl 3])), .inr (.inr (.inl [some 52, some 68, some 84, some 100, some 116, some 36])), .inl 60, .inr (.inl (0, [.inr (some false), .inr (some false), .inr (some false), .inr (some false)])), .inr (.inl (1, [.inl 5, .inl 6, .inl 7, .inl 8, .inl 9, .inl 10, .inl 11, .inl 12, .inl 13, .inl 14, .inl 15, .inl 16, .inl 17, .inl 18, .inl 19, .inr (some false), .inr (some false)])), .inl 40, .inl 40, .inl 40, .inl 40, .inl 40, .inl 96, .inl 12, .inl 12, .inl 12, .inl 12, .inl 12, .inl 5, .inl 5, .inl 5, .inl 2, .inr (.inl (1, [.inl 21, .inl 22, .inl 23, .inl 24, .inl 25, .inl 26, .inl 27, .inl 28, .inl 29, .inl 30, .inl 31, .inl 32, .inl 33, .inl 34, .inl 35, .inr (some false), .inr (some false)])), .inl 40, .inl 40, .inl 40, .inl 40, .inl 40, .inl 96, .inl 12, .inl 12, .inl 12, .inl 12, .inl 12, .inl 5, .inl 5, .inl 5, .inl 2, .inr (.inl (1, [.inl 37, .inl 38, .inl 39, .inl 40, .inl 41, .inl 42, .inl 43, .inl 44, .inl 45, .inl 46, .inl 47, .inl 48, .inl 49, .inl 50, .inl 51, .inr (some false), .inr (some false)])), .inl 40, .inl 40, .inl 40, .inl 40, .inl 40, .inl 96, .inl 12, .inl 12, .inl 12, .inl 12, .inl 12, .inl 5, .inl 5, .inl 5, .inl 2, .inr (.inl (1, [.inl 53, .inl 54, .inl 55, .inl 56, .inl 57, .inl 58, .inl 59, .inl 60, .inl 61, .inl 62, .inl 63, .inl 64, .inl 65, .inl 66, .inl 67, .inr (some false), .inr (some false)])), .inl 40, .inl 40, .inl 40, .inl 40, .inl 40, .inl 96, .inl 12, .inl 12, .inl 12, .inl 12, .inl 12, .inl 5, .inl 5, .inl 5, .inl 2, .inr (.inl (1, [.inl 69, .inl 70, .inl 71, .inl 72, .inl 73, .inl 74, .inl 75, .inl 76, .inl 77, .inl 78, .inl 79, .inl 80, .inl 81, .inl 82, .inl 83, .inr (some false), .inr (some false)])), .inl 40, .inl 40, .inl 40, .inl 40, .inl 40, .inl 96, .inl 12, .inl 12, .inl 12, .inl 12, .inl 12, .inl 5, .inl 5, .inl 5, .inl 2, .inr (.inl (1, [.inl 85, .inl 86, .inl 87, .inl 88, .inl 89, .inl 90, .inl 91, .inl 92, .inl 93, .inl 94, .inl 95, .inl 96, .inl 97, .inl 98, .inl 99, .inr (some false), .inr (some false)])), .inl 40, .inl 40, .inl 40, .inl 40, .inl 40, .inl 96, .inl 12, .inl 12, .inl 12, .inl 12, .inl 12, .inl 5, .inl 5, .inl 5, .inl 2, .inr (.inl (1, [.inl 101, .inl 102, .inl 103, .inl 104, .inl 105, .inl 106, .inl 107, .inl 108, .inl 109, .inl 110, .inl 111, .inl 112, .inl 113, .inl 114, .inl 115, .inr (some false), .inr (some false)])), .inl 40, .inl 40, .inl 40, .inl 40, .inl 40, .inl 96, .inl 12, .inl 12, .inl 12, .inl 12, .inl 12, .inl 5, .inl 5, .inl 5, .inl 2, .inr (.inl (1, [.inl 117, .inl 118, .inl 119, .inl 120, .inl 121, .inl 122, .inl 123, .inl 124, .inl 125, .inl 126, .inl 127, .inl 128, .inl 129, .inl 130, .inl 131, .inr (some false), .inr (some false)])), .inl 40, .inl 40, .inl 40, .inl 40, .inl 40, .inl 96, .inl 12, .inl 12, .inl 12, .inl 12, .inl 12, .inl 5, .inl 5, .inl 5, .inl 2]) (v := (5 : Int32)) (n := 5) (j := 36) C hq 1 rfl rfl (by decide) (by unfold vp_in; decide) rfl rfl dX2_dropOldest_41 ?_
  refine x_aload_n C dX2_dropOldest_42 rfl 0 rfl ?_
  refine x_dup C dX2_dropOldest_43 rfl ?_
  refine x_get (v := .int (m 0 3)) C in_X2_dropOldest_2 0 rfl rfl 3 (by decide) k_X2_dropOldest_23 rfl rfl dX2_dropOldest_44 ?_
  refine x_iconst (v := (1 : Int32)) C dX2_dropOldest_47 (by decide) ?_
  refine x_isub C dX2_dropOldest_48 ?_
  obtain ⟨z1, hz1⟩ : ∃ y9 : gM, y9 = g_set m 0 (upd (m 0) 3 ((m 0 3) - (1 : Int32))) := ⟨_, rfl⟩
  have hf := hf.trans (g_let_eq hz1)
  have hok := g_let_p hz1 hok
  refine x_puti (sh := [.inr (.inl (2, [.inl 4, .inl 20, .inl 1, .inr (some false), .inl 2, .inr (some false), .inl 3])), .inr (.inr (.inl [some 52, some 68, some 84, some 100, some 116, some 36])), .inl 60, .inr (.inl (0, [.inr (some false), .inr (some false), .inr (some false), .inr (some false)])), .inr (.inl (1, [.inl 5, .inl 6, .inl 7, .inl 8, .inl 9, .inl 10, .inl 11, .inl 12, .inl 13, .inl 14, .inl 15, .inl 16, .inl 17, .inl 18, .inl 19, .inr (some false), .inr (some false)])), .inl 40, .inl 40, .inl 40, .inl 40, .inl 40, .inl 96, .inl 12, .inl 12, .inl 12, .inl 12, .inl 12, .inl 5, .inl 5, .inl 5, .inl 2, .inr (.inl (1, [.inl 21, .inl 22, .inl 23, .inl 24, .inl 25, .inl 26, .inl 27, .inl 28, .inl 29, .inl 30, .inl 31, .inl 32, .inl 33, .inl 34, .inl 35, .inr (some false), .inr (some false)])), .inl 40, .inl 40, .inl 40, .inl 40, .inl 40, .inl 96, .inl 12, .inl 12, .inl 12, .inl 12, .inl 12, .inl 5, .inl 5, .inl 5, .inl 2, .inr (.inl (1, [.inl 37, .inl 38, .inl 39, .inl 40, .inl 41, .inl 42, .inl 43, .inl 44, .inl 45, .inl 46, .inl 47, .inl 48, .inl 49, .inl 50, .inl 51, .inr (some false), .inr (some false)])), .inl 40, .inl 40, .inl 40, .inl 40, .inl 40, .inl 96, .inl 12, .inl 12, .inl 12, .inl 12, .inl 12, .inl 5, .inl 5, .inl 5, .inl 2, .inr (.inl (1, [.inl 53, .inl 54, .inl 55, .inl 56, .inl 57, .inl 58, .inl 59, .inl 60, .inl 61, .inl 62, .inl 63, .inl 64, .inl 65, .inl 66, .inl 67, .inr (some false), .inr (some false)])), .inl 40, .inl 40, .inl 40, .inl 40, .inl 40, .inl 96, .inl 12, .inl 12, .inl 12, .inl 12, .inl 12, .inl 5, .inl 5, .inl 5, .inl 2, .inr (.inl (1, [.inl 69, .inl 70, .inl 71, .inl 72, .inl 73, .inl 74, .inl 75, .inl 76, .inl 77, .inl 78, .inl 79, .inl 80, .inl 81, .inl 82, .inl 83, .inr (some false), .inr (some false)])), .inl 40, .inl 40, .inl 40, .inl 40, .inl 40, .inl 96, .inl 12, .inl 12, .inl 12, .inl 12, .inl 12, .inl 5, .inl 5, .inl 5, .inl 2, .inr (.inl (1, [.inl 85, .inl 86, .inl 87, .inl 88, .inl 89, .inl 90, .inl 91, .inl 92, .inl 93, .inl 94, .inl 95, .inl 96, .inl 97, .inl 98, .inl 99, .inr (some false), .inr (some false)])), .inl 40, .inl 40, .inl 40, .inl 40, .inl 40, .inl 96, .inl 12, .inl 12, .inl 12, .inl 12, .inl 12, .inl 5, .inl 5, .inl 5, .inl 2, .inr (.inl (1, [.inl 101, .inl 102, .inl 103, .inl 104, .inl 105, .inl 106, .inl 107, .inl 108, .inl 109, .inl 110, .inl 111, .inl 112, .inl 113, .inl 114, .inl 115, .inr (some false), .inr (some false)])), .inl 40, .inl 40, .inl 40, .inl 40, .inl 40, .inl 96, .inl 12, .inl 12, .inl 12, .inl 12, .inl 12, .inl 5, .inl 5, .inl 5, .inl 2, .inr (.inl (1, [.inl 117, .inl 118, .inl 119, .inl 120, .inl 121, .inl 122, .inl 123, .inl 124, .inl 125, .inl 126, .inl 127, .inl 128, .inl 129, .inl 130, .inl 131, .inr (some false), .inr (some false)])), .inl 40, .inl 40, .inl 40, .inl 40, .inl 40, .inl 96, .inl 12, .inl 12, .inl 12, .inl 12, .inl 12, .inl 5, .inl 5, .inl 5, .inl 2]) (μ' := z1) (ty := .int) C hq tyX2 tyX2_ok nmX2 in_X2_dropOldest_2 0 rfl rfl 3 (by decide) k_X2_dropOldest_23 rfl (tyX2_ok 3 (by decide)) rfl rfl rfl hz1 dX2_dropOldest_49 ?_
  refine x_lv (lv' := []) [] rfl ?_
  refine x_ren (sh' := shH) [0, 1, 2, 3, 4, 5, 6, 7, 8, 9, 10, 11, 12, 13, 14, 15, 16, 17, 18, 19, 20, 21, 22, 23, 24, 25, 26, 27, 28, 29, 30, 31, 32, 33, 34, 35, 52, 53, 54, 55, 56, 57, 58, 59, 60, 61, 62, 63, 64, 65, 66, 67, 68, 69, 70, 71, 72, 73, 74, 75, 76, 77, 78, 79, 80, 81, 82, 83, 84, 85, 86, 87, 88, 89, 90, 91, 92, 93, 94, 95, 96, 97, 98, 99, 100, 101, 102, 103, 104, 105, 106, 107, 108, 109, 110, 111, 112, 113, 114, 115, 116, 117, 118, 119, 120, 121, 122, 123, 124, 125, 126, 127, 128, 129, 130, 131, 36, 37, 38, 39, 40, 41, 42, 43, 44, 45, 46, 47, 48, 49, 50, 51] ⟨by decide +kernel, rfl⟩ rfl ?_
  have hq9 : gD (gA q shH.length s.heap.size) (g_sel [0, 1, 2, 3, 4, 5, 6, 7, 8, 9, 10, 11, 12, 13, 14, 15, 16, 17, 18, 19, 20, 21, 22, 23, 24, 25, 26, 27, 28, 29, 30, 31, 32, 33, 34, 35, 52, 53, 54, 55, 56, 57, 58, 59, 60, 61, 62, 63, 64, 65, 66, 67, 68, 69, 70, 71, 72, 73, 74, 75, 76, 77, 78, 79, 80, 81, 82, 83, 84, 85, 86, 87, 88, 89, 90, 91, 92, 93, 94, 95, 96, 97, 98, 99, 100, 101, 102, 103, 104, 105, 106, 107, 108, 109, 110, 111, 112, 113, 114, 115, 116, 117, 118, 119, 120, 121, 122, 123, 124, 125, 126, 127, 128, 129, 130, 131, 36, 37, 38, 39, 40, 41, 42, 43, 44, 45, 46, 47, 48, 49, 50, 51] q) shH.length := gD_sel hq (by decide +kernel) rfl (by decide +kernel)
  exact g_pvret C hq9 (fun k hk => by match k, hk with | 0, _ => exact rfl | 1, _ => exact rfl | 2, _ => exact rfl | 3, _ => exact rfl) hr dX2_dropOldest_52 hf.symm rfl
set_option maxRecDepth 20000 in
theorem gs_H_SS_100_101 : gSub shH shSS [100, 101, 102, 103, 104, 105, 106, 107, 108, 109, 110, 111, 112, 113, 114, 115, 4, 5, 6, 7, 8, 9, 10, 11, 12, 13, 14, 15, 16, 17, 18, 19] := ⟨by decide, rfl⟩
set_option maxRecDepth 20000 in
theorem gs_H_SS_116_117 : gSub shH shSS [116, 117, 118, 119, 120, 121, 122, 123, 124, 125, 126, 127, 128, 129, 130, 131, 4, 5, 6, 7, 8, 9, 10, 11, 12, 13, 14, 15, 16, 17, 18, 19] := ⟨by decide, rfl⟩
set_option maxRecDepth 20000 in
theorem gs_H_SS_36_37 : gSub shH shSS [36, 37, 38, 39, 40, 41, 42, 43, 44, 45, 46, 47, 48, 49, 50, 51, 4, 5, 6, 7, 8, 9, 10, 11, 12, 13, 14, 15, 16, 17, 18, 19] := ⟨by decide, rfl⟩
set_option maxRecDepth 20000 in
theorem gs_H_SS_52_53 : gSub shH shSS [52, 53, 54, 55, 56, 57, 58, 59, 60, 61, 62, 63, 64, 65, 66, 67, 4, 5, 6, 7, 8, 9, 10, 11, 12, 13, 14, 15, 16, 17, 18, 19] := ⟨by decide, rfl⟩
set_option maxRecDepth 20000 in
theorem gs_H_SS_68_69 : gSub shH shSS [68, 69, 70, 71, 72, 73, 74, 75, 76, 77, 78, 79, 80, 81, 82, 83, 4, 5, 6, 7, 8, 9, 10, 11, 12, 13, 14, 15, 16, 17, 18, 19] := ⟨by decide, rfl⟩
set_option maxRecDepth 20000 in
theorem gs_H_SS_84_85 : gSub shH shSS [84, 85, 86, 87, 88, 89, 90, 91, 92, 93, 94, 95, 96, 97, 98, 99, 4, 5, 6, 7, 8, 9, 10, 11, 12, 13, 14, 15, 16, 17, 18, 19] := ⟨by decide, rfl⟩
set_option maxRecDepth 20000 in
theorem in_X2_saveState_2 : ∀ w ∈ u_ws RX2 TX2 7, w ∈ wsX2_saveState := by decide +kernel
set_option maxRecDepth 20000 in
theorem k_X2_saveState_10 : Cond.fieldLink RX2 10 "HintedPages" "store" "LHintedPages$Store;" ∈ wsX2_saveState := by decide +kernel
set_option maxRecDepth 20000 in
theorem k_X2_saveState_19 : Cond.fieldLink RX2 19 "HintedPages" "saved" "[LHintedPages$Store;" ∈ wsX2_saveState := by decide +kernel
set_option maxRecDepth 20000 in
theorem k_X2_saveState_23 : Cond.fieldLink RX2 23 "HintedPages" "savedStates" "I" ∈ wsX2_saveState := by decide +kernel
abbrev rm_h_saveState : Room := { frames := 3, cells := 0, slots := 0, locals := 82 }
noncomputable def f_h_saveState (m : gM) : gM := (if (m 0 3) = (6 : Int32) then g_let (f_h_dropOldest m) (fun z33 : gM => (if (z33 0 3) = (0 : Int32) then g_let (f_s_becomeLike (g_sel [36, 37, 38, 39, 40, 41, 42, 43, 44, 45, 46, 47, 48, 49, 50, 51, 4, 5, 6, 7, 8, 9, 10, 11, 12, 13, 14, 15, 16, 17, 18, 19] z33)) (fun z36 : gM => g_let (g_mrg [36, 37, 38, 39, 40, 41, 42, 43, 44, 45, 46, 47, 48, 49, 50, 51, 4, 5, 6, 7, 8, 9, 10, 11, 12, 13, 14, 15, 16, 17, 18, 19] z33 z36) (fun z37 : gM => g_let (g_set z37 0 (upd (z37 0) 3 ((z37 0 3) + (1 : Int32)))) (fun z38 : gM => z38))) else (if (z33 0 3) = (1 : Int32) then g_let (f_s_becomeLike (g_sel [52, 53, 54, 55, 56, 57, 58, 59, 60, 61, 62, 63, 64, 65, 66, 67, 4, 5, 6, 7, 8, 9, 10, 11, 12, 13, 14, 15, 16, 17, 18, 19] z33)) (fun z41 : gM => g_let (g_mrg [52, 53, 54, 55, 56, 57, 58, 59, 60, 61, 62, 63, 64, 65, 66, 67, 4, 5, 6, 7, 8, 9, 10, 11, 12, 13, 14, 15, 16, 17, 18, 19] z33 z41) (fun z42 : gM => g_let (g_set z42 0 (upd (z42 0) 3 ((z42 0 3) + (1 : Int32)))) (fun z43 : gM => z43))) else (if (z33 0 3) = (2 : Int32) then g_let (f_s_becomeLike (g_sel [68, 69, 70, 71, 72, 73, 74, 75, 76, 77, 78, 79, 80, 81, 82, 83, 4, 5, 6, 7, 8, 9, 10, 11, 12, 13, 14, 15, 16, 17, 18, 19] z33)) (fun z46 : gM => g_let (g_mrg [68, 69, 70, 71, 72, 73, 74, 75, 76, 77, 78, 79, 80, 81, 82, 83, 4, 5, 6, 7, 8, 9, 10, 11, 12, 13, 14, 15, 16, 17, 18, 19] z33 z46) (fun z47 : gM => g_let (g_set z47 0 (upd (z47 0) 3 ((z47 0 3) + (1 : Int32)))) (fun z48 : gM => z48))) else (if (z33 0 3) = (3 : Int32) then g_let (f_s_becomeLike (g_sel [84, 85, 86, 87, 88, 89, 90, 91, 92, 93, 94, 95, 96, 97, 98, 99, 4, 5, 6, 7, 8, 9, 10, 11, 12, 13, 14, 15, 16, 17, 18, 19] z33)) (fun z51 : gM => g_let (g_mrg [84, 85, 86, 87, 88, 89, 90, 91, 92, 93, 94, 95, 96, 97, 98, 99, 4, 5, 6, 7, 8, 9, 10, 11, 12, 13, 14, 15, 16, 17, 18, 19] z33 z51) (fun z52 : gM => g_let (g_set z52 0 (upd (z52 0) 3 ((z52 0 3) + (1 : Int32)))) (fun z53 : gM => z53))) else (if (z33 0 3) = (4 : Int32) then g_let (f_s_becomeLike (g_sel [100, 101, 102, 103, 104, 105, 106, 107, 108, 109, 110, 111, 112, 113, 114, 115, 4, 5, 6, 7, 8, 9, 10, 11, 12, 13, 14, 15, 16, 17, 18, 19] z33)) (fun z56 : gM => g_let (g_mrg [100, 101, 102, 103, 104, 105, 106, 107, 108, 109, 110, 111, 112, 113, 114, 115, 4, 5, 6, 7, 8, 9, 10, 11, 12, 13, 14, 15, 16, 17, 18, 19] z33 z56) (fun z57 : gM => g_let (g_set z57 0 (upd (z57 0) 3 ((z57 0 3) + (1 : Int32)))) (fun z58 : gM => z58))) else (if (z33 0 3) = (5 : Int32) then g_let (f_s_becomeLike (g_sel [116, 117, 118, 119, 120, 121, 122, 123, 124, 125, 126, 127, 128, 129, 130, 131, 4, 5, 6, 7, 8, 9, 10, 11, 12, 13, 14, 15, 16, 17, 18, 19] z33)) (fun z61 : gM => g_let (g_mrg [116, 117, 118, 119, 120, 121, 122, 123, 124, 125, 126, 127, 128, 129, 130, 131, 4, 5, 6, 7, 8, 9, 10, 11, 12, 13, 14, 15, 16, 17, 18, 19] z33 z61) (fun z62 : gM => g_let (g_set z62 0 (upd (z62 0) 3 ((z62 0 3) + (1 : Int32)))) (fun z63 : gM => z63))) else z33))))))) else (if (m 0 3) = (0 : Int32) then g_let (f_s_becomeLike (g_sel [36, 37, 38, 39, 40, 41, 42, 43, 44, 45, 46, 47, 48, 49, 50, 51, 4, 5, 6, 7, 8, 9, 10, 11, 12, 13, 14, 15, 16, 17, 18, 19] m)) (fun z4 : gM => g_let (g_mrg [36, 37, 38, 39, 40, 41, 42, 43, 44, 45, 46, 47, 48, 49, 50, 51, 4, 5, 6, 7, 8, 9, 10, 11, 12, 13, 14, 15, 16, 17, 18, 19] m z4) (fun z5 : gM => g_let (g_set z5 0 (upd (z5 0) 3 ((z5 0 3) + (1 : Int32)))) (fun z6 : gM => z6))) else (if (m 0 3) = (1 : Int32) then g_let (f_s_becomeLike (g_sel [52, 53, 54, 55, 56, 57, 58, 59, 60, 61, 62, 63, 64, 65, 66, 67, 4, 5, 6, 7, 8, 9, 10, 11, 12, 13, 14, 15, 16, 17, 18, 19] m)) (fun z9 : gM => g_let (g_mrg [52, 53, 54, 55, 56, 57, 58, 59, 60, 61, 62, 63, 64, 65, 66, 67, 4, 5, 6, 7, 8, 9, 10, 11, 12, 13, 14, 15, 16, 17, 18, 19] m z9) (fun z10 : gM => g_let (g_set z10 0 (upd (z10 0) 3 ((z10 0 3) + (1 : Int32)))) (fun z11 : gM => z11))) else (if (m 0 3) = (2 : Int32) then g_let (f_s_becomeLike (g_sel [68, 69, 70, 71, 72, 73, 74, 75, 76, 77, 78, 79, 80, 81, 82, 83, 4, 5, 6, 7, 8, 9, 10, 11, 12, 13, 14, 15, 16, 17, 18, 19] m)) (fun z14 : gM => g_let (g_mrg [68, 69, 70, 71, 72, 73, 74, 75, 76, 77, 78, 79, 80, 81, 82, 83, 4, 5, 6, 7, 8, 9, 10, 11, 12, 13, 14, 15, 16, 17, 18, 19] m z14) (fun z15 : gM => g_let (g_set z15 0 (upd (z15 0) 3 ((z15 0 3) + (1 : Int32)))) (fun z16 : gM => z16))) else (if (m 0 3) = (3 : Int32) then g_let (f_s_becomeLike (g_sel [84, 85, 86, 87, 88, 89, 90, 91, 92, 93, 94, 95, 96, 97, 98, 99, 4, 5, 6, 7, 8, 9, 10, 11, 12, 13, 14, 15, 16, 17, 18, 19] m)) (fun z19 : gM => g_let (g_mrg [84, 85, 86, 87, 88, 89, 90, 91, 92, 93, 94, 95, 96, 97, 98, 99, 4, 5, 6, 7, 8, 9, 10, 11, 12, 13, 14, 15, 16, 17, 18, 19] m z19) (fun z20 : gM => g_let (g_set z20 0 (upd (z20 0) 3 ((z20 0 3) + (1 : Int32)))) (fun z21 : gM => z21))) else (if (m 0 3) = (4 : Int32) then g_let (f_s_becomeLike (g_sel [100, 101, 102, 103, 104, 105, 106, 107, 108, 109, 110, 111, 112, 113, 114, 115, 4, 5, 6, 7, 8, 9, 10, 11, 12, 13, 14, 15, 16, 17, 18, 19] m)) (fun z24 : gM => g_let (g_mrg [100, 101, 102, 103, 104, 105, 106, 107, 108, 109, 110, 111, 112, 113, 114, 115, 4, 5, 6, 7, 8, 9, 10, 11, 12, 13, 14, 15, 16, 17, 18, 19] m z24) (fun z25 : gM => g_let (g_set z25 0 (upd (z25 0) 3 ((z25 0 3) + (1 : Int32)))) (fun z26 : gM => z26))) else (if (m 0 3) = (5 : Int32) then g_let (f_s_becomeLike (g_sel [116, 117, 118, 119, 120, 121, 122, 123, 124, 125, 126, 127, 128, 129, 130, 131, 4, 5, 6, 7, 8, 9, 10, 11, 12, 13, 14, 15, 16, 17, 18, 19] m)) (fun z29 : gM => g_let (g_mrg [116, 117, 118, 119, 120, 121, 122, 123, 124, 125, 126, 127, 128, 129, 130, 131, 4, 5, 6, 7, 8, 9, 10, 11, 12, 13, 14, 15, 16, 17, 18, 19] m z29) (fun z30 : gM => g_let (g_set z30 0 (upd (z30 0) 3 ((z30 0 3) + (1 : Int32)))) (fun z31 : gM => z31))) else m)))))))
noncomputable def o_h_saveState (m : gM) : Prop := (if (m 0 3) = (6 : Int32) then (o_h_dropOldest m) ∧ (g_let (f_h_dropOldest m) (fun z33 : gM => (if (z33 0 3) = (0 : Int32) then (o_s_becomeLike (g_sel [36, 37, 38, 39, 40, 41, 42, 43, 44, 45, 46, 47, 48, 49, 50, 51, 4, 5, 6, 7, 8, 9, 10, 11, 12, 13, 14, 15, 16, 17, 18, 19] z33)) ∧ (g_let (f_s_becomeLike (g_sel [36, 37, 38, 39, 40, 41, 42, 43, 44, 45, 46, 47, 48, 49, 50, 51, 4, 5, 6, 7, 8, 9, 10, 11, 12, 13, 14, 15, 16, 17, 18, 19] z33)) (fun z36 : gM => g_let (g_mrg [36, 37, 38, 39, 40, 41, 42, 43, 44, 45, 46, 47, 48, 49, 50, 51, 4, 5, 6, 7, 8, 9, 10, 11, 12, 13, 14, 15, 16, 17, 18, 19] z33 z36) (fun z37 : gM => g_let (g_set z37 0 (upd (z37 0) 3 ((z37 0 3) + (1 : Int32)))) (fun z38 : gM => True)))) else (if (z33 0 3) = (1 : Int32) then (o_s_becomeLike (g_sel [52, 53, 54, 55, 56, 57, 58, 59, 60, 61, 62, 63, 64, 65, 66, 67, 4, 5, 6, 7, 8, 9, 10, 11, 12, 13, 14, 15, 16, 17, 18, 19] z33)) ∧ (g_let (f_s_becomeLike (g_sel [52, 53, 54, 55, 56, 57, 58, 59, 60, 61, 62, 63, 64, 65, 66, 67, 4, 5, 6, 7, 8, 9, 10, 11, 12, 13, 14, 15, 16, 17, 18, 19] z33)) (fun z41 : gM => g_let (g_mrg [52, 53, 54, 55, 56, 57, 58, 59, 60, 61, 62, 63, 64, 65, 66, 67, 4, 5, 6, 7, 8, 9, 10, 11, 12, 13, 14, 15, 16, 17, 18, 19] z33 z41) (fun z42 : gM => g_let (g_set z42 0 (upd (z42 0) 3 ((z42 0 3) + (1 : Int32)))) (fun z43 : gM => True)))) else (if (z33 0 3) = (2 : Int32) then (o_s_becomeLike (g_sel [68, 69, 70, 71, 72, 73, 74, 75, 76, 77, 78, 79, 80, 81, 82, 83, 4, 5, 6, 7, 8, 9, 10, 11, 12, 13, 14, 15, 16, 17, 18, 19] z33)) ∧ (g_let (f_s_becomeLike (g_sel [68, 69, 70, 71, 72, 73, 74, 75, 76, 77, 78, 79, 80, 81, 82, 83, 4, 5, 6, 7, 8, 9, 10, 11, 12, 13, 14, 15, 16, 17, 18, 19] z33)) (fun z46 : gM => g_let (g_mrg [68, 69, 70, 71, 72, 73, 74, 75, 76, 77, 78, 79, 80, 81, 82, 83, 4, 5, 6, 7, 8, 9, 10, 11, 12, 13, 14, 15, 16, 17, 18, 19] z33 z46) (fun z47 : gM => g_let (g_set z47 0 (upd (z47 0) 3 ((z47 0 3) + (1 : Int32)))) (fun z48 : gM => True)))) else (if (z33 0 3) = (3 : Int32) then (o_s_becomeLike (g_sel [84, 85, 86, 87, 88, 89, 90, 91, 92, 93, 94, 95, 96, 97, 98, 99, 4, 5, 6, 7, 8, 9, 10, 11, 12, 13, 14, 15, 16, 17, 18, 19] z33)) ∧ (g_let (f_s_becomeLike (g_sel [84, 85, 86, 87, 88, 89, 90, 91, 92, 93, 94, 95, 96, 97, 98, 99, 4, 5, 6, 7, 8, 9, 10, 11, 12, 13, 14, 15, 16, 17, 18, 19] z33)) (fun z51 : gM => g_let (g_mrg [84, 85, 86, 87, 88, 89, 90, 91, 92, 93, 94, 95, 96, 97, 98, 99, 4, 5, 6, 7, 8, 9, 10, 11, 12, 13, 14, 15, 16, 17, 18, 19] z33 z51) (fun z52 : gM => g_let (g_set z52 0 (upd (z52 0) 3 ((z52 0 3) + (1 : Int32)))) (fun z53 : gM => True)))) else (if (z33 0 3) = (4 : Int32) then (o_s_becomeLike (g_sel [100, 101, 102, 103, 104, 105, 106, 107, 108, 109, 110, 111, 112, 113, 114, 115, 4, 5, 6, 7, 8, 9, 10, 11, 12, 13, 14, 15, 16, 17, 18, 19] z33)) ∧ (g_let (f_s_becomeLike (g_sel [100, 101, 102, 103, 104, 105, 106, 107, 108, 109, 110, 111, 112, 113, 114, 115, 4, 5, 6, 7, 8, 9, 10, 11, 12, 13, 14, 15, 16, 17, 18, 19] z33)) (fun z56 : gM => g_let (g_mrg [100, 101, 102, 103, 104, 105, 106, 107, 108, 109, 110, 111, 112, 113, 114, 115, 4, 5, 6, 7, 8, 9, 10, 11, 12, 13, 14, 15, 16, 17, 18, 19] z33 z56) (fun z57 : gM => g_let (g_set z57 0 (upd (z57 0) 3 ((z57 0 3) + (1 : Int32)))) (fun z58 : gM => True)))) else (if (z33 0 3) = (5 : Int32) then (o_s_becomeLike (g_sel [116, 117, 118, 119, 120, 121, 122, 123, 124, 125, 126, 127, 128, 129, 130, 131, 4, 5, 6, 7, 8, 9, 10, 11, 12, 13, 14, 15, 16, 17, 18, 19] z33)) ∧ (g_let (f_s_becomeLike (g_sel [116, 117, 118, 119, 120, 121, 122, 123, 124, 125, 126, 127, 128, 129, 130, 131, 4, 5, 6, 7, 8, 9, 10, 11, 12, 13, 14, 15, 16, 17, 18, 19] z33)) (fun z61 : gM => g_let (g_mrg [116, 117, 118, 119, 120, 121, 122, 123, 124, 125, 126, 127, 128, 129, 130, 131, 4, 5, 6, 7, 8, 9, 10, 11, 12, 13, 14, 15, 16, 17, 18, 19] z33 z61) (fun z62 : gM => g_let (g_set z62 0 (upd (z62 0) 3 ((z62 0 3) + (1 : Int32)))) (fun z63 : gM => True)))) else False)))))))) else (if (m 0 3) = (0 : Int32) then (o_s_becomeLike (g_sel [36, 37, 38, 39, 40, 41, 42, 43, 44, 45, 46, 47, 48, 49, 50, 51, 4, 5, 6, 7, 8, 9, 10, 11, 12, 13, 14, 15, 16, 17, 18, 19] m)) ∧ (g_let (f_s_becomeLike (g_sel [36, 37, 38, 39, 40, 41, 42, 43, 44, 45, 46, 47, 48, 49, 50, 51, 4, 5, 6, 7, 8, 9, 10, 11, 12, 13, 14, 15, 16, 17, 18, 19] m)) (fun z4 : gM => g_let (g_mrg [36, 37, 38, 39, 40, 41, 42, 43, 44, 45, 46, 47, 48, 49, 50, 51, 4, 5, 6, 7, 8, 9, 10, 11, 12, 13, 14, 15, 16, 17, 18, 19] m z4) (fun z5 : gM => g_let (g_set z5 0 (upd (z5 0) 3 ((z5 0 3) + (1 : Int32)))) (fun z6 : gM => True)))) else (if (m 0 3) = (1 : Int32) then (o_s_becomeLike (g_sel [52, 53, 54, 55, 56, 57, 58, 59, 60, 61, 62, 63, 64, 65, 66, 67, 4, 5, 6, 7, 8, 9, 10, 11, 12, 13, 14, 15, 16, 17, 18, 19] m)) ∧ (g_let (f_s_becomeLike (g_sel [52, 53, 54, 55, 56, 57, 58, 59, 60, 61, 62, 63, 64, 65, 66, 67, 4, 5, 6, 7, 8, 9, 10, 11, 12, 13, 14, 15, 16, 17, 18, 19] m)) (fun z9 : gM => g_let (g_mrg [52, 53, 54, 55, 56, 57, 58, 59, 60, 61, 62, 63, 64, 65, 66, 67, 4, 5, 6, 7, 8, 9, 10, 11, 12, 13, 14, 15, 16, 17, 18, 19] m z9) (fun z10 : gM => g_let (g_set z10 0 (upd (z10 0) 3 ((z10 0 3) + (1 : Int32)))) (fun z11 : gM => True)))) else (if (m 0 3) = (2 : Int32) then (o_s_becomeLike (g_sel [68, 69, 70, 71, 72, 73, 74, 75, 76, 77, 78, 79, 80, 81, 82, 83, 4, 5, 6, 7, 8, 9, 10, 11, 12, 13, 14, 15, 16, 17, 18, 19] m)) ∧ (g_let (f_s_becomeLike (g_sel [68, 69, 70, 71, 72, 73, 74, 75, 76, 77, 78, 79, 80, 81, 82, 83, 4, 5, 6, 7, 8, 9, 10, 11, 12, 13, 14, 15, 16, 17, 18, 19] m)) (fun z14 : gM => g_let (g_mrg [68, 69, 70, 71, 72, 73, 74, 75, 76, 77, 78, 79, 80, 81, 82, 83, 4, 5, 6, 7, 8, 9, 10, 11, 12, 13, 14, 15, 16, 17, 18, 19] m z14) (fun z15 : gM => g_let (g_set z15 0 (upd (z15 0) 3 ((z15 0 3) + (1 : Int32)))) (fun z16 : gM => True)))) else (if (m 0 3) = (3 : Int32) then (o_s_becomeLike (g_sel [84, 85, 86, 87, 88, 89, 90, 91, 92, 93, 94, 95, 96, 97, 98, 99, 4, 5, 6, 7, 8, 9, 10, 11, 12, 13, 14, 15, 16, 17, 18, 19] m)) ∧ (g_let (f_s_becomeLike (g_sel [84, 85, 86, 87, 88, 89, 90, 91, 92, 93, 94, 95, 96, 97, 98, 99, 4, 5, 6, 7, 8, 9, 10, 11, 12, 13, 14, 15, 16, 17, 18, 19] m)) (fun z19 : gM => g_let (g_mrg [84, 85, 86, 87, 88, 89, 90, 91, 92, 93, 94, 95, 96, 97, 98, 99, 4, 5, 6, 7, 8, 9, 10, 11, 12, 13, 14, 15, 16, 17, 18, 19] m z19) (fun z20 : gM => g_let (g_set z20 0 (upd (z20 0) 3 ((z20 0 3) + (1 : Int32)))) (fun z21 : gM => True)))) else (if (m 0 3) = (4 : Int32) then (o_s_becomeLike (g_sel [100, 101, 102, 103, 104, 105, 106, 107, 108, 109, 110, 111, 112, 113, 114, 115, 4, 5, 6, 7, 8, 9, 10, 11, 12, 13, 14, 15, 16, 17, 18, 19] m)) ∧ (g_let (f_s_becomeLike (g_sel [100, 101, 102, 103, 104, 105, 106, 107, 108, 109, 110, 111, 112, 113, 114, 115, 4, 5, 6, 7, 8, 9, 10, 11, 12, 13, 14, 15, 16, 17, 18, 19] m)) (fun z24 : gM => g_let (g_mrg [100, 101, 102, 103, 104, 105, 106, 107, 108, 109, 110, 111, 112, 113, 114, 115, 4, 5, 6, 7, 8, 9, 10, 11, 12, 13, 14, 15, 16, 17, 18, 19] m z24) (fun z25 : gM => g_let (g_set z25 0 (upd (z25 0) 3 ((z25 0 3) + (1 : Int32)))) (fun z26 : gM => True)))) else (if (m 0 3) = (5 : Int32) then (o_s_becomeLike (g_sel [116, 117, 118, 119, 120, 121, 122, 123, 124, 125, 126, 127, 128, 129, 130, 131, 4, 5, 6, 7, 8, 9, 10, 11, 12, 13, 14, 15, 16, 17, 18, 19] m)) ∧ (g_let (f_s_becomeLike (g_sel [116, 117, 118, 119, 120, 121, 122, 123, 124, 125, 126, 127, 128, 129, 130, 131, 4, 5, 6, 7, 8, 9, 10, 11, 12, 13, 14, 15, 16, 17, 18, 19] m)) (fun z29 : gM => g_let (g_mrg [116, 117, 118, 119, 120, 121, 122, 123, 124, 125, 126, 127, 128, 129, 130, 131, 4, 5, 6, 7, 8, 9, 10, 11, 12, 13, 14, 15, 16, 17, 18, 19] m z29) (fun z30 : gM => g_let (g_set z30 0 (upd (z30 0) 3 ((z30 0 3) + (1 : Int32)))) (fun z31 : gM => True)))) else False)))))))
set_option maxRecDepth 100000 in
set_option maxHeartbeats 4000000 in
theorem c_h_saveState (l : Launch) (G : gG) (q : Nat → Nat) (m : gM) (h : gN) (hok : o_h_saveState m) : gMpv l yX2_saveState wsX2_saveState rm_h_saveState G shH q 4 m h [.ref (q 0)] (f_h_saveState m) h := by
  intro sz
  refine g_met (cc := cX2_saveState) (maxL := 1) (ret := none) (own := RX2) (Qc := fun sz => gQpv G shH q 4 (f_h_saveState m) h sz) (by decide) rfl rfl (Nat.le_of_ble_eq_true rfl) (fun p e s m9 below meth c C hq hr => ?_)
  refine x_lv (lv' := [(0, .ref (q 0))]) [0] rfl ?_
  have hf := f_h_saveState.eq_1 m
  have hok := Eq.mp (o_h_saveState.eq_1 m) hok
  refine x_aload_n C dX2_saveState_0 rfl 0 rfl ?_
  refine x_get (v := .int (m 0 3)) C in_X2_saveState_2 0 rfl rfl 3 (by decide) k_X2_saveState_23 rfl rfl dX2_saveState_1 ?_
  refine x_bipush (v := (6 : Int32)) C dX2_saveState_4 (by decide) ?_
  refine x_icmp_ne (tgt := 13) C dX2_saveState_6 (by decide) (fun c1 => ?_) (fun c1 => ?_)
  · have hf := hf.trans (if_neg c1)
    have hok := g_in c1 hok
    refine x_aload_n C dX2_saveState_13 rfl 0 rfl ?_
    refine x_get (v := .ref (q 1)) C in_X2_saveState_2 0 rfl rfl 2 (by decide) k_X2_saveState_19 rfl rfl dX2_saveState_14 ?_
    refine x_aload_n C dX2_saveState_17 rfl 0 rfl ?_
    refine x_get (v := .int (m 0 3)) C in_X2_saveState_2 0 rfl rfl 3 (by decide) k_X2_saveState_23 rfl rfl dX2_saveState_18 ?_
    by_cases c2 : (m 0 3) = (0 : Int32)
    · have hf := hf.trans (if_pos c2)
      have hok := g_ip c2 hok
      refine x_aald (v := (0 : Int32)) (j := 36) C 1 rfl c2 (by unfold vp_in; decide) rfl dX2_saveState_21 ?_
      refine x_aload_n C dX2_saveState_22 rfl 0 rfl ?_
      refine x_get (v := .ref (q 4)) C in_X2_saveState_2 0 rfl rfl 0 (by decide) k_X2_saveState_10 rfl rfl dX2_saveState_23 ?_
      have s3 := And.left hok
      have hok := And.right hok
      obtain ⟨z4, hz4⟩ : ∃ y9 : gM, y9 = f_s_becomeLike (g_sel [36, 37, 38, 39, 40, 41, 42, 43, 44, 45, 46, 47, 48, 49, 50, 51, 4, 5, 6, 7, 8, 9, 10, 11, 12, 13, 14, 15, 16, 17, 18, 19] m) := ⟨_, rfl⟩
      have hf := hf.trans (g_let_eq hz4)
      have hok := g_let_p hz4 hok
      have hmz4 : gMv l yX1_becomeLike wsX1_becomeLike rm_s_becomeLike G shSS (g_sel [36, 37, 38, 39, 40, 41, 42, 43, 44, 45, 46, 47, 48, 49, 50, 51, 4, 5, 6, 7, 8, 9, 10, 11, 12, 13, 14, 15, 16, 17, 18, 19] q) (g_sel [36, 37, 38, 39, 40, 41, 42, 43, 44, 45, 46, 47, 48, 49, 50, 51, 4, 5, 6, 7, 8, 9, 10, 11, 12, 13, 14, 15, 16, 17, 18, 19] m) (g_sel [36, 37, 38, 39, 40, 41, 42, 43, 44, 45, 46, 47, 48, 49, 50, 51, 4, 5, 6, 7, 8, 9, 10, 11, 12, 13, 14, 15, 16, 17, 18, 19] h) [.ref ((g_sel [36, 37, 38, 39, 40, 41, 42, 43, 44, 45, 46, 47, 48, 49, 50, 51, 4, 5, 6, 7, 8, 9, 10, 11, 12, 13, 14, 15, 16, 17, 18, 19] q) 0), .ref ((g_sel [36, 37, 38, 39, 40, 41, 42, 43, 44, 45, 46, 47, 48, 49, 50, 51, 4, 5, 6, 7, 8, 9, 10, 11, 12, 13, 14, 15, 16, 17, 18, 19] q) 16)] z4 (g_sel [36, 37, 38, 39, 40, 41, 42, 43, 44, 45, 46, 47, 48, 49, 50, 51, 4, 5, 6, 7, 8, 9, 10, 11, 12, 13, 14, 15, 16, 17, 18, 19] h) := by rw [hz4]; exact c_s_becomeLike l G (g_sel [36, 37, 38, 39, 40, 41, 42, 43, 44, 45, 46, 47, 48, 49, 50, 51, 4, 5, 6, 7, 8, 9, 10, 11, 12, 13, 14, 15, 16, 17, 18, 19] q) (g_sel [36, 37, 38, 39, 40, 41, 42, 43, 44, 45, 46, 47, 48, 49, 50, 51, 4, 5, 6, 7, 8, 9, 10, 11, 12, 13, 14, 15, 16, 17, 18, 19] m) (g_sel [36, 37, 38, 39, 40, 41, 42, 43, 44, 45, 46, 47, 48, 49, 50, 51, 4, 5, 6, 7, 8, 9, 10, 11, 12, 13, 14, 15, 16, 17, 18, 19] h) s3
      refine x_callVv (n := 1) C hq (gFr_sub gs_H_SS_36_37) (hmz4) (cwV 1 C.2.2.2.2.2.1 gX2_saveState_X1_becomeLike rfl rfl rfl (by decide +kernel) ⟨Nat.le_of_ble_eq_true rfl, Nat.le_of_ble_eq_true rfl⟩) rfl rfl rfl rfl (Nat.le_of_ble_eq_true rfl) dX2_saveState_26 (Nat.zero_le _) (Nat.zero_le _) ?_
      obtain ⟨z5, hz5⟩ : ∃ y9 : gM, y9 = g_mrg [36, 37, 38, 39, 40, 41, 42, 43, 44, 45, 46, 47, 48, 49, 50, 51, 4, 5, 6, 7, 8, 9, 10, 11, 12, 13, 14, 15, 16, 17, 18, 19] m z4 := ⟨_, rfl⟩
      have hf := hf.trans (g_let_eq hz5)
      have hok := g_let_p hz5 hok
      refine x_mu hz5 (g_mrg_id gs_H_SS_36_37.1) ?_
      refine x_aload_n C dX2_saveState_29 rfl 0 rfl ?_
      refine x_dup C dX2_saveState_30 rfl ?_
      refine x_get (v := .int (z5 0 3)) C in_X2_saveState_2 0 rfl rfl 3 (by decide) k_X2_saveState_23 rfl rfl dX2_saveState_31 ?_
      refine x_iconst (v := (1 : Int32)) C dX2_saveState_34 (by decide) ?_
      refine x_iadd C dX2_saveState_35 ?_
      obtain ⟨z6, hz6⟩ : ∃ y9 : gM, y9 = g_set z5 0 (upd (z5 0) 3 ((z5 0 3) + (1 : Int32))) := ⟨_, rfl⟩
      have hf := hf.trans (g_let_eq hz6)
      have hok := g_let_p hz6 hok
      refine x_puti (μ' := z6) (ty := .int) C hq tyX2 tyX2_ok nmX2 in_X2_saveState_2 0 rfl rfl 3 (by decide) k_X2_saveState_23 rfl (tyX2_ok 3 (by decide)) rfl rfl rfl hz6 dX2_saveState_36 ?_
      exact g_pvret C hq (fun _ _ => rfl) hr dX2_saveState_39 hf.symm rfl
    · have hf := hf.trans (if_neg c2)
      have hok := g_in c2 hok
      by_cases c7 : (m 0 3) = (1 : Int32)
      · have hf := hf.trans (if_pos c7)
        have hok := g_ip c7 hok
        refine x_aald (v := (1 : Int32)) (j := 52) C 1 rfl c7 (by unfold vp_in; decide) rfl dX2_saveState_21 ?_
        refine x_aload_n C dX2_saveState_22 rfl 0 rfl ?_
        refine x_get (v := .ref (q 4)) C in_X2_saveState_2 0 rfl rfl 0 (by decide) k_X2_saveState_10 rfl rfl dX2_saveState_23 ?_
        have s8 := And.left hok
        have hok := And.right hok
        obtain ⟨z9, hz9⟩ : ∃ y9 : gM, y9 = f_s_becomeLike (g_sel [52, 53, 54, 55, 56, 57, 58, 59, 60, 61, 62, 63, 64, 65, 66, 67, 4, 5, 6, 7, 8, 9, 10, 11, 12, 13, 14, 15, 16, 17, 18, 19] m) := ⟨_, rfl⟩
        have hf := hf.trans (g_let_eq hz9)
        have hok := g_let_p hz9 hok
        have hmz9 : gMv l yX1_becomeLike wsX1_becomeLike rm_s_becomeLike G shSS (g_sel [52, 53, 54, 55, 56, 57, 58, 59, 60, 61, 62, 63, 64, 65, 66, 67, 4, 5, 6, 7, 8, 9, 10, 11, 12, 13, 14, 15, 16, 17, 18, 19] q) (g_sel [52, 53, 54, 55, 56, 57, 58, 59, 60, 61, 62, 63, 64, 65, 66, 67, 4, 5, 6, 7, 8, 9, 10, 11, 12, 13, 14, 15, 16, 17, 18, 19] m) (g_sel [52, 53, 54, 55, 56, 57, 58, 59, 60, 61, 62, 63, 64, 65, 66, 67, 4, 5, 6, 7, 8, 9, 10, 11, 12, 13, 14, 15, 16, 17, 18, 19] h) [.ref ((g_sel [52, 53, 54, 55, 56, 57, 58, 59, 60, 61, 62, 63, 64, 65, 66, 67, 4, 5, 6, 7, 8, 9, 10, 11, 12, 13, 14, 15, 16, 17, 18, 19] q) 0), .ref ((g_sel [52, 53, 54, 55, 56, 57, 58, 59, 60, 61, 62, 63, 64, 65, 66, 67, 4, 5, 6, 7, 8, 9, 10, 11, 12, 13, 14, 15, 16, 17, 18, 19] q) 16)] z9 (g_sel [52, 53, 54, 55, 56, 57, 58, 59, 60, 61, 62, 63, 64, 65, 66, 67, 4, 5, 6, 7, 8, 9, 10, 11, 12, 13, 14, 15, 16, 17, 18, 19] h) := by rw [hz9]; exact c_s_becomeLike l G (g_sel [52, 53, 54, 55, 56, 57, 58, 59, 60, 61, 62, 63, 64, 65, 66, 67, 4, 5, 6, 7, 8, 9, 10, 11, 12, 13, 14, 15, 16, 17, 18, 19] q) (g_sel [52, 53, 54, 55, 56, 57, 58, 59, 60, 61, 62, 63, 64, 65, 66, 67, 4, 5, 6, 7, 8, 9, 10, 11, 12, 13, 14, 15, 16, 17, 18, 19] m) (g_sel [52, 53, 54, 55, 56, 57, 58, 59, 60, 61, 62, 63, 64, 65, 66, 67, 4, 5, 6, 7, 8, 9, 10, 11, 12, 13, 14, 15, 16, 17, 18, 19] h) s8
        refine x_callVv (n := 1) C hq (gFr_sub gs_H_SS_52_53) (hmz9) (cwV 1 C.2.2.2.2.2.1 gX2_saveState_X1_becomeLike rfl rfl rfl (by decide +kernel) ⟨Nat.le_of_ble_eq_true rfl, Nat.le_of_ble_eq_true rfl⟩) rfl rfl rfl rfl (Nat.le_of_ble_eq_true rfl) dX2_saveState_26 (Nat.zero_le _) (Nat.zero_le _) ?_
        obtain ⟨z10, hz10⟩ : ∃ y9 : gM, y9 = g_mrg [52, 53, 54, 55, 56, 57, 58, 59, 60, 61, 62, 63, 64, 65, 66, 67, 4, 5, 6, 7, 8, 9, 10, 11, 12, 13, 14, 15, 16, 17, 18, 19] m z9 := ⟨_, rfl⟩
        have hf := hf.trans (g_let_eq hz10)
        have hok := g_let_p hz10 hok
        refine x_mu hz10 (g_mrg_id gs_H_SS_52_53.1) ?_
        refine x_aload_n C dX2_saveState_29 rfl 0 rfl ?_
        refine x_dup C dX2_saveState_30 rfl ?_
        refine x_get (v := .int (z10 0 3)) C in_X2_saveState_2 0 rfl rfl 3 (by decide) k_X2_saveState_23 rfl rfl dX2_saveState_31 ?_
        refine x_iconst (v := (1 : Int32)) C dX2_saveState_34 (by decide) ?_
        refine x_iadd C dX2_saveState_35 ?_
        obtain ⟨z11, hz11⟩ : ∃ y9 : gM, y9 = g_set z10 0 (upd (z10 0) 3 ((z10 0 3) + (1 : Int32))) := ⟨_, rfl⟩
        have hf := hf.trans (g_let_eq hz11)
        have hok := g_let_p hz11 hok
        refine x_puti (μ' := z11) (ty := .int) C hq tyX2 tyX2_ok nmX2 in_X2_saveState_2 0 rfl rfl 3 (by decide) k_X2_saveState_23 rfl (tyX2_ok 3 (by decide)) rfl rfl rfl hz11 dX2_saveState_36 ?_
        exact g_pvret C hq (fun _ _ => rfl) hr dX2_saveState_39 hf.symm rfl
      · have hf := hf.trans (if_neg c7)
        have hok := g_in c7 hok
        by_cases c12 : (m 0 3) = (2 : Int32)
        · have hf := hf.trans (if_pos c12)
          have hok := g_ip c12 hok
          refine x_aald (v := (2 : Int32)) (j := 68) C 1 rfl c12 (by unfold vp_in; decide) rfl dX2_saveState_21 ?_
          refine x_aload_n C dX2_saveState_22 rfl 0 rfl ?_
          refine x_get (v := .ref (q 4)) C in_X2_saveState_2 0 rfl rfl 0 (by decide) k_X2_saveState_10 rfl rfl dX2_saveState_23 ?_
          have s13 := And.left hok
          have hok := And.right hok
          obtain ⟨z14, hz14⟩ : ∃ y9 : gM, y9 = f_s_becomeLike (g_sel [68, 69, 70, 71, 72, 73, 74, 75, 76, 77, 78, 79, 80, 81, 82, 83, 4, 5, 6, 7, 8, 9, 10, 11, 12, 13, 14, 15, 16, 17, 18, 19] m) := ⟨_, rfl⟩
          have hf := hf.trans (g_let_eq hz14)
          have hok := g_let_p hz14 hok
          have hmz14 : gMv l yX1_becomeLike wsX1_becomeLike rm_s_becomeLike G shSS (g_sel [68, 69, 70, 71, 72, 73, 74, 75, 76, 77, 78, 79, 80, 81, 82, 83, 4, 5, 6, 7, 8, 9, 10, 11, 12, 13, 14, 15, 16, 17, 18, 19] q) (g_sel [68, 69, 70, 71, 72, 73, 74, 75, 76, 77, 78, 79, 80, 81, 82, 83, 4, 5, 6, 7, 8, 9, 10, 11, 12, 13, 14, 15, 16, 17, 18, 19] m) (g_sel [68, 69, 70, 71, 72, 73, 74, 75, 76, 77, 78, 79, 80, 81, 82, 83, 4, 5, 6, 7, 8, 9, 10, 11, 12, 13, 14, 15, 16, 17, 18, 19] h) [.ref ((g_sel [68, 69, 70, 71, 72, 73, 74, 75, 76, 77, 78, 79, 80, 81, 82, 83, 4, 5, 6, 7, 8, 9, 10, 11, 12, 13, 14, 15, 16, 17, 18, 19] q) 0), .ref ((g_sel [68, 69, 70, 71, 72, 73, 74, 75, 76, 77, 78, 79, 80, 81, 82, 83, 4, 5, 6, 7, 8, 9, 10, 11, 12, 13, 14, 15, 16, 17, 18, 19] q) 16)] z14 (g_sel [68, 69, 70, 71, 72, 73, 74, 75, 76, 77, 78, 79, 80, 81, 82, 83, 4, 5, 6, 7, 8, 9, 10, 11, 12, 13, 14, 15, 16, 17, 18, 19] h) := by rw [hz14]; exact c_s_becomeLike l G (g_sel [68, 69, 70, 71, 72, 73, 74, 75, 76, 77, 78, 79, 80, 81, 82, 83, 4, 5, 6, 7, 8, 9, 10, 11, 12, 13, 14, 15, 16, 17, 18, 19] q) (g_sel [68, 69, 70, 71, 72, 73, 74, 75, 76, 77, 78, 79, 80, 81, 82, 83, 4, 5, 6, 7, 8, 9, 10, 11, 12, 13, 14, 15, 16, 17, 18, 19] m) (g_sel [68, 69, 70, 71, 72, 73, 74, 75, 76, 77, 78, 79, 80, 81, 82, 83, 4, 5, 6, 7, 8, 9, 10, 11, 12, 13, 14, 15, 16, 17, 18, 19] h) s13
          refine x_callVv (n := 1) C hq (gFr_sub gs_H_SS_68_69) (hmz14) (cwV 1 C.2.2.2.2.2.1 gX2_saveState_X1_becomeLike rfl rfl rfl (by decide +kernel) ⟨Nat.le_of_ble_eq_true rfl, Nat.le_of_ble_eq_true rfl⟩) rfl rfl rfl rfl (Nat.le_of_ble_eq_true rfl) dX2_saveState_26 (Nat.zero_le _) (Nat.zero_le _) ?_
          obtain ⟨z15, hz15⟩ : ∃ y9 : gM, y9 = g_mrg [68, 69, 70, 71, 72, 73, 74, 75, 76, 77, 78, 79, 80, 81, 82, 83, 4, 5, 6, 7, 8, 9, 10, 11, 12, 13, 14, 15, 16, 17, 18, 19] m z14 := ⟨_, rfl⟩
          have hf := hf.trans (g_let_eq hz15)
          have hok := g_let_p hz15 hok
          refine x_mu hz15 (g_mrg_id gs_H_SS_68_69.1) ?_
          refine x_aload_n C dX2_saveState_29 rfl 0 rfl ?_
          refine x_dup C dX2_saveState_30 rfl ?_
          refine x_get (v := .int (z15 0 3)) C in_X2_saveState_2 0 rfl rfl 3 (by decide) k_X2_saveState_23 rfl rfl dX2_saveState_31 ?_
          refine x_iconst (v := (1 : Int32)) C dX2_saveState_34 (by decide) ?_
          refine x_iadd C dX2_saveState_35 ?_
          obtain ⟨z16, hz16⟩ : ∃ y9 : gM, y9 = g_set z15 0 (upd (z15 0) 3 ((z15 0 3) + (1 : Int32))) := ⟨_, rfl⟩
          have hf := hf.trans (g_let_eq hz16)
          have hok := g_let_p hz16 hok
          refine x_puti (μ' := z16) (ty := .int) C hq tyX2 tyX2_ok nmX2 in_X2_saveState_2 0 rfl rfl 3 (by decide) k_X2_saveState_23 rfl (tyX2_ok 3 (by decide)) rfl rfl rfl hz16 dX2_saveState_36 ?_
          exact g_pvret C hq (fun _ _ => rfl) hr dX2_saveState_39 hf.symm rfl
        · have hf := hf.trans (if_neg c12)
          have hok := g_in c12 hok
          by_cases c17 : (m 0 3) = (3 : Int32)
          · have hf := hf.trans (if_pos c17)
            have hok := g_ip c17 hok
            refine x_aald (v := (3 : Int32)) (j := 84) C 1 rfl c17 (by unfold vp_in; decide) rfl dX2_saveState_21 ?_
            refine x_aload_n C dX2_saveState_22 rfl 0 rfl ?_
            refine x_get (v := .ref (q 4)) C in_X2_saveState_2 0 rfl rfl 0 (by decide) k_X2_saveState_10 rfl rfl dX2_saveState_23 ?_
            have s18 := And.left hok
            have hok := And.right hok
            obtain ⟨z19, hz19⟩ : ∃ y9 : gM, y9 = f_s_becomeLike (g_sel [84, 85, 86, 87, 88, 89, 90, 91, 92, 93, 94, 95, 96, 97, 98, 99, 4, 5, 6, 7, 8, 9, 10, 11, 12, 13, 14, 15, 16, 17, 18, 19] m) := ⟨_, rfl⟩
            have hf := hf.trans (g_let_eq hz19)
            have hok := g_let_p hz19 hok
            have hmz19 : gMv l yX1_becomeLike wsX1_becomeLike rm_s_becomeLike G shSS (g_sel [84, 85, 86, 87, 88, 89, 90, 91, 92, 93, 94, 95, 96, 97, 98, 99, 4, 5, 6, 7, 8, 9, 10, 11, 12, 13, 14, 15, 16, 17, 18, 19] q) (g_sel [84, 85, 86, 87, 88, 89, 90, 91, 92, 93, 94, 95, 96, 97, 98, 99, 4, 5, 6, 7, 8, 9, 10, 11, 12, 13, 14, 15, 16, 17, 18, 19] m) (g_sel [84, 85, 86, 87, 88, 89, 90, 91, 92, 93, 94, 95, 96, 97, 98, 99, 4, 5, 6, 7, 8, 9, 10, 11, 12, 13, 14, 15, 16, 17, 18, 19] h) [.ref ((g_sel [84, 85, 86, 87, 88, 89, 90, 91, 92, 93, 94, 95, 96, 97, 98, 99, 4, 5, 6, 7, 8, 9, 10, 11, 12, 13, 14, 15, 16, 17, 18, 19] q) 0), .ref ((g_sel [84, 85, 86, 87, 88, 89, 90, 91, 92, 93, 94, 95, 96, 97, 98, 99, 4, 5, 6, 7, 8, 9, 10, 11, 12, 13, 14, 15, 16, 17, 18, 19] q) 16)] z19 (g_sel [84, 85, 86, 87, 88, 89, 90, 91, 92, 93, 94, 95, 96, 97, 98, 99, 4, 5, 6, 7, 8, 9, 10, 11, 12, 13, 14, 15, 16, 17, 18, 19] h) := by rw [hz19]; exact c_s_becomeLike l G (g_sel [84, 85, 86, 87, 88, 89, 90, 91, 92, 93, 94, 95, 96, 97, 98, 99, 4, 5, 6, 7, 8, 9, 10, 11, 12, 13, 14, 15, 16, 17, 18, 19] q) (g_sel [84, 85, 86, 87, 88, 89, 90, 91, 92, 93, 94, 95, 96, 97, 98, 99, 4, 5, 6, 7, 8, 9, 10, 11, 12, 13, 14, 15, 16, 17, 18, 19] m) (g_sel [84, 85, 86, 87, 88, 89, 90, 91, 92, 93, 94, 95, 96, 97, 98, 99, 4, 5, 6, 7, 8, 9, 10, 11, 12, 13, 14, 15, 16, 17, 18, 19] h) s18
            refine x_callVv (n := 1) C hq (gFr_sub gs_H_SS_84_85) (hmz19) (cwV 1 C.2.2.2.2.2.1 gX2_saveState_X1_becomeLike rfl rfl rfl (by decide +kernel) ⟨Nat.le_of_ble_eq_true rfl, Nat.le_of_ble_eq_true rfl⟩) rfl rfl rfl rfl (Nat.le_of_ble_eq_true rfl) dX2_saveState_26 (Nat.zero_le _) (Nat.zero_le _) ?_
            obtain ⟨z20, hz20⟩ : ∃ y9 : gM, y9 = g_mrg [84, 85, 86, 87, 88, 89, 90, 91, 92, 93, 94, 95, 96, 97, 98, 99, 4, 5, 6, 7, 8, 9, 10, 11, 12, 13, 14, 15, 16, 17, 18, 19] m z19 := ⟨_, rfl⟩
            have hf := hf.trans (g_let_eq hz20)
            have hok := g_let_p hz20 hok
            refine x_mu hz20 (g_mrg_id gs_H_SS_84_85.1) ?_
            refine x_aload_n C dX2_saveState_29 rfl 0 rfl ?_
            refine x_dup C dX2_saveState_30 rfl ?_
            refine x_get (v := .int (z20 0 3)) C in_X2_saveState_2 0 rfl rfl 3 (by decide) k_X2_saveState_23 rfl rfl dX2_saveState_31 ?_
            refine x_iconst (v := (1 : Int32)) C dX2_saveState_34 (by decide) ?_
            refine x_iadd C dX2_saveState_35 ?_
            obtain ⟨z21, hz21⟩ : ∃ y9 : gM, y9 = g_set z20 0 (upd (z20 0) 3 ((z20 0 3) + (1 : Int32))) := ⟨_, rfl⟩
            have hf := hf.trans (g_let_eq hz21)
            have hok := g_let_p hz21 hok
            refine x_puti (μ' := z21) (ty := .int) C hq tyX2 tyX2_ok nmX2 in_X2_saveState_2 0 rfl rfl 3 (by decide) k_X2_saveState_23 rfl (tyX2_ok 3 (by decide)) rfl rfl rfl hz21 dX2_saveState_36 ?_
            exact g_pvret C hq (fun _ _ => rfl) hr dX2_saveState_39 hf.symm rfl
          · have hf := hf.trans (if_neg c17)
            have hok := g_in c17 hok
            by_cases c22 : (m 0 3) = (4 : Int32)
            · have hf := hf.trans (if_pos c22)
              have hok := g_ip c22 hok
              refine x_aald (v := (4 : Int32)) (j := 100) C 1 rfl c22 (by unfold vp_in; decide) rfl dX2_saveState_21 ?_
              refine x_aload_n C dX2_saveState_22 rfl 0 rfl ?_
              refine x_get (v := .ref (q 4)) C in_X2_saveState_2 0 rfl rfl 0 (by decide) k_X2_saveState_10 rfl rfl dX2_saveState_23 ?_
              have s23 := And.left hok
              have hok := And.right hok
              obtain ⟨z24, hz24⟩ : ∃ y9 : gM, y9 = f_s_becomeLike (g_sel [100, 101, 102, 103, 104, 105, 106, 107, 108, 109, 110, 111, 112, 113, 114, 115, 4, 5, 6, 7, 8, 9, 10, 11, 12, 13, 14, 15, 16, 17, 18, 19] m) := ⟨_, rfl⟩
              have hf := hf.trans (g_let_eq hz24)
              have hok := g_let_p hz24 hok
              have hmz24 : gMv l yX1_becomeLike wsX1_becomeLike rm_s_becomeLike G shSS (g_sel [100, 101, 102, 103, 104, 105, 106, 107, 108, 109, 110, 111, 112, 113, 114, 115, 4, 5, 6, 7, 8, 9, 10, 11, 12, 13, 14, 15, 16, 17, 18, 19] q) (g_sel [100, 101, 102, 103, 104, 105, 106, 107, 108, 109, 110, 111, 112, 113, 114, 115, 4, 5, 6, 7, 8, 9, 10, 11, 12, 13, 14, 15, 16, 17, 18, 19] m) (g_sel [100, 101, 102, 103, 104, 105, 106, 107, 108, 109, 110, 111, 112, 113, 114, 115, 4, 5, 6, 7, 8, 9, 10, 11, 12, 13, 14, 15, 16, 17, 18, 19] h) [.ref ((g_sel [100, 101, 102, 103, 104, 105, 106, 107, 108, 109, 110, 111, 112, 113, 114, 115, 4, 5, 6, 7, 8, 9, 10, 11, 12, 13, 14, 15, 16, 17, 18, 19] q) 0), .ref ((g_sel [100, 101, 102, 103, 104, 105, 106, 107, 108, 109, 110, 111, 112, 113, 114, 115, 4, 5, 6, 7, 8, 9, 10, 11, 12, 13, 14, 15, 16, 17, 18, 19] q) 16)] z24 (g_sel [100, 101, 102, 103, 104, 105, 106, 107, 108, 109, 110, 111, 112, 113, 114, 115, 4, 5, 6, 7, 8, 9, 10, 11, 12, 13, 14, 15, 16, 17, 18, 19] h) := by rw [hz24]; exact c_s_becomeLike l G (g_sel [100, 101, 102, 103, 104, 105, 106, 107, 108, 109, 110, 111, 112, 113, 114, 115, 4, 5, 6, 7, 8, 9, 10, 11, 12, 13, 14, 15, 16, 17, 18, 19] q) (g_sel [100, 101, 102, 103, 104, 105, 106, 107, 108, 109, 110, 111, 112, 113, 114, 115, 4, 5, 6, 7, 8, 9, 10, 11, 12, 13, 14, 15, 16, 17, 18, 19] m) (g_sel [100, 101, 102, 103, 104, 105, 106, 107, 108, 109, 110, 111, 112, 113, 114, 115, 4, 5, 6, 7, 8, 9, 10, 11, 12, 13, 14, 15, 16, 17, 18, 19] h) s23
              refine x_callVv (n := 1) C hq (gFr_sub gs_H_SS_100_101) (hmz24) (cwV 1 C.2.2.2.2.2.1 gX2_saveState_X1_becomeLike rfl rfl rfl (by decide +kernel) ⟨Nat.le_of_ble_eq_true rfl, Nat.le_of_ble_eq_true rfl⟩) rfl rfl rfl rfl (Nat.le_of_ble_eq_true rfl) dX2_saveState_26 (Nat.zero_le _) (Nat.zero_le _) ?_
              obtain ⟨z25, hz25⟩ : ∃ y9 : gM, y9 = g_mrg [100, 101, 102, 103, 104, 105, 106, 107, 108, 109, 110, 111, 112, 113, 114, 115, 4, 5, 6, 7, 8, 9, 10, 11, 12, 13, 14, 15, 16, 17, 18, 19] m z24 := ⟨_, rfl⟩
              have hf := hf.trans (g_let_eq hz25)
              have hok := g_let_p hz25 hok
              refine x_mu hz25 (g_mrg_id gs_H_SS_100_101.1) ?_
              refine x_aload_n C dX2_saveState_29 rfl 0 rfl ?_
              refine x_dup C dX2_saveState_30 rfl ?_
              refine x_get (v := .int (z25 0 3)) C in_X2_saveState_2 0 rfl rfl 3 (by decide) k_X2_saveState_23 rfl rfl dX2_saveState_31 ?_
              refine x_iconst (v := (1 : Int32)) C dX2_saveState_34 (by decide) ?_
              refine x_iadd C dX2_saveState_35 ?_
              obtain ⟨z26, hz26⟩ : ∃ y9 : gM, y9 = g_set z25 0 (upd (z25 0) 3 ((z25 0 3) + (1 : Int32))) := ⟨_, rfl⟩
              have hf := hf.trans (g_let_eq hz26)
              have hok := g_let_p hz26 hok
              refine x_puti (μ' := z26) (ty := .int) C hq tyX2 tyX2_ok nmX2 in_X2_saveState_2 0 rfl rfl 3 (by decide) k_X2_saveState_23 rfl (tyX2_ok 3 (by decide)) rfl rfl rfl hz26 dX2_saveState_36 ?_
              exact g_pvret C hq (fun _ _ => rfl) hr dX2_saveState_39 hf.symm rfl
            · have hf := hf.trans (if_neg c22)
              have hok := g_in c22 hok
              by_cases c27 : (m 0 3) = (5 : Int32)
              · have hf := hf.trans (if_pos c27)
                have hok := g_ip c27 hok
                refine x_aald (v := (5 : Int32)) (j := 116) C 1 rfl c27 (by unfold vp_in; decide) rfl dX2_saveState_21 ?_
                refine x_aload_n C dX2_saveState_22 rfl 0 rfl ?_
                refine x_get (v := .ref (q 4)) C in_X2_saveState_2 0 rfl rfl 0 (by decide) k_X2_saveState_10 rfl rfl dX2_saveState_23 ?_
                have s28 := And.left hok
                have hok := And.right hok
                obtain ⟨z29, hz29⟩ : ∃ y9 : gM, y9 = f_s_becomeLike (g_sel [116, 117, 118, 119, 120, 121, 122, 123, 124, 125, 126, 127, 128, 129, 130, 131, 4, 5, 6, 7, 8, 9, 10, 11, 12, 13, 14, 15, 16, 17, 18, 19] m) := ⟨_, rfl⟩
                have hf := hf.trans (g_let_eq hz29)
                have hok := g_let_p hz29 hok
                have hmz29 : gMv l yX1_becomeLike wsX1_becomeLike rm_s_becomeLike G shSS (g_sel [116, 117, 118, 119, 120, 121, 122, 123, 124, 125, 126, 127, 128, 129, 130, 131, 4, 5, 6, 7, 8, 9, 10, 11, 12, 13, 14, 15, 16, 17, 18, 19] q) (g_sel [116, 117, 118, 119, 120, 121, 122, 123, 124, 125, 126, 127, 128, 129, 130, 131, 4, 5, 6, 7, 8, 9, 10, 11, 12, 13, 14, 15, 16, 17, 18, 19] m) (g_sel [116, 117, 118, 119, 120, 121, 122, 123, 124, 125, 126, 127, 128, 129, 130, 131, 4, 5, 6, 7, 8, 9, 10, 11, 12, 13, 14, 15, 16, 17, 18, 19] h) [.ref ((g_sel [116, 117, 118, 119, 120, 121, 122, 123, 124, 125, 126, 127, 128, 129, 130, 131, 4, 5, 6, 7, 8, 9, 10, 11, 12, 13, 14, 15, 16, 17, 18, 19] q) 0), .ref ((g_sel [116, 117, 118, 119, 120, 121, 122, 123, 124, 125, 126, 127, 128, 129, 130, 131, 4, 5, 6, 7, 8, 9, 10, 11, 12, 13, 14, 15, 16, 17, 18, 19] q) 16)] z29 (g_sel [116, 117, 118, 119, 120, 121, 122, 123, 124, 125, 126, 127, 128, 129, 130, 131, 4, 5, 6, 7, 8, 9, 10, 11, 12, 13, 14, 15, 16, 17, 18, 19] h) := by rw [hz29]; exact c_s_becomeLike l G (g_sel [116, 117, 118, 119, 120, 121, 122, 123, 124, 125, 126, 127, 128, 129, 130, 131, 4, 5, 6, 7, 8, 9, 10, 11, 12, 13, 14, 15, 16, 17, 18, 19] q) (g_sel [116, 117, 118, 119, 120, 121, 122, 123, 124, 125, 126, 127, 128, 129, 130, 131, 4, 5, 6, 7, 8, 9, 10, 11, 12, 13, 14, 15, 16, 17, 18, 19] m) (g_sel [116, 117, 118, 119, 120, 121, 122, 123, 124, 125, 126, 127, 128, 129, 130, 131, 4, 5, 6, 7, 8, 9, 10, 11, 12, 13, 14, 15, 16, 17, 18, 19] h) s28
                refine x_callVv (n := 1) C hq (gFr_sub gs_H_SS_116_117) (hmz29) (cwV 1 C.2.2.2.2.2.1 gX2_saveState_X1_becomeLike rfl rfl rfl (by decide +kernel) ⟨Nat.le_of_ble_eq_true rfl, Nat.le_of_ble_eq_true rfl⟩) rfl rfl rfl rfl (Nat.le_of_ble_eq_true rfl) dX2_saveState_26 (Nat.zero_le _) (Nat.zero_le _) ?_
                obtain ⟨z30, hz30⟩ : ∃ y9 : gM, y9 = g_mrg [116, 117, 118, 119, 120, 121, 122, 123, 124, 125, 126, 127, 128, 129, 130, 131, 4, 5, 6, 7, 8, 9, 10, 11, 12, 13, 14, 15, 16, 17, 18, 19] m z29 := ⟨_, rfl⟩
                have hf := hf.trans (g_let_eq hz30)
                have hok := g_let_p hz30 hok
                refine x_mu hz30 (g_mrg_id gs_H_SS_116_117.1) ?_
                refine x_aload_n C dX2_saveState_29 rfl 0 rfl ?_
                refine x_dup C dX2_saveState_30 rfl ?_
                refine x_get (v := .int (z30 0 3)) C in_X2_saveState_2 0 rfl rfl 3 (by decide) k_X2_saveState_23 rfl rfl dX2_saveState_31 ?_
                refine x_iconst (v := (1 : Int32)) C dX2_saveState_34 (by decide) ?_
                refine x_iadd C dX2_saveState_35 ?_
                obtain ⟨z31, hz31⟩ : ∃ y9 : gM, y9 = g_set z30 0 (upd (z30 0) 3 ((z30 0 3) + (1 : Int32))) := ⟨_, rfl⟩
                have hf := hf.trans (g_let_eq hz31)
                have hok := g_let_p hz31 hok
                refine x_puti (μ' := z31) (ty := .int) C hq tyX2 tyX2_ok nmX2 in_X2_saveState_2 0 rfl rfl 3 (by decide) k_X2_saveState_23 rfl (tyX2_ok 3 (by decide)) rfl rfl rfl hz31 dX2_saveState_36 ?_
                exact g_pvret C hq (fun _ _ => rfl) hr dX2_saveState_39 hf.symm rfl
              · have hf := hf.trans (if_neg c27)
                have hok := g_in c27 hok
                exact False.elim hok
  · have hf := hf.trans (if_pos c1)
    have hok := g_ip c1 hok
    refine x_aload_n C dX2_saveState_9 rfl 0 rfl ?_
    have s32 := And.left hok
    have hok := And.right hok
    obtain ⟨z33, hz33⟩ : ∃ y9 : gM, y9 = f_h_dropOldest m := ⟨_, rfl⟩
    have hf := hf.trans (g_let_eq hz33)
    have hok := g_let_p hz33 hok
    have hmz33 : gMpv l yX2_dropOldest wsX2_dropOldest rm_h_dropOldest G shH q 4 m h [.ref (q 0)] z33 h := by rw [hz33]; exact c_h_dropOldest l G q m h s32
    refine x_callVpv (n := 0) (n4 := 4) C hq hmz33 (cwV 0 C.2.2.2.2.2.1 gX2_saveState_X2_dropOldest rfl rfl rfl (by decide +kernel) ⟨Nat.le_of_ble_eq_true rfl, Nat.le_of_ble_eq_true rfl⟩) rfl rfl rfl rfl (Nat.le_of_ble_eq_true rfl) dX2_saveState_10 (Nat.zero_le _) (Nat.zero_le _) (fun qz33 h4qz33 hqqz33 => ?_)
    refine x_lve (lv' := [(0, .ref (qz33 0))]) (by rw [h4qz33 0 (by decide)]) ?_
    refine x_aload_n C dX2_saveState_13 rfl 0 rfl ?_
    refine x_get (v := .ref (qz33 1)) C in_X2_saveState_2 0 rfl rfl 2 (by decide) k_X2_saveState_19 rfl rfl dX2_saveState_14 ?_
    refine x_aload_n C dX2_saveState_17 rfl 0 rfl ?_
    refine x_get (v := .int (z33 0 3)) C in_X2_saveState_2 0 rfl rfl 3 (by decide) k_X2_saveState_23 rfl rfl dX2_saveState_18 ?_
    by_cases c34 : (z33 0 3) = (0 : Int32)
    · have hf := hf.trans (if_pos c34)
      have hok := g_ip c34 hok
      refine x_aald (v := (0 : Int32)) (j := 36) C 1 rfl c34 (by unfold vp_in; decide) rfl dX2_saveState_21 ?_
      refine x_aload_n C dX2_saveState_22 rfl 0 rfl ?_
      refine x_get (v := .ref (qz33 4)) C in_X2_saveState_2 0 rfl rfl 0 (by decide) k_X2_saveState_10 rfl rfl dX2_saveState_23 ?_
      have s35 := And.left hok
      have hok := And.right hok
      obtain ⟨z36, hz36⟩ : ∃ y9 : gM, y9 = f_s_becomeLike (g_sel [36, 37, 38, 39, 40, 41, 42, 43, 44, 45, 46, 47, 48, 49, 50, 51, 4, 5, 6, 7, 8, 9, 10, 11, 12, 13, 14, 15, 16, 17, 18, 19] z33) := ⟨_, rfl⟩
      have hf := hf.trans (g_let_eq hz36)
      have hok := g_let_p hz36 hok
      have hmz36 : gMv l yX1_becomeLike wsX1_becomeLike rm_s_becomeLike G shSS (g_sel [36, 37, 38, 39, 40, 41, 42, 43, 44, 45, 46, 47, 48, 49, 50, 51, 4, 5, 6, 7, 8, 9, 10, 11, 12, 13, 14, 15, 16, 17, 18, 19] qz33) (g_sel [36, 37, 38, 39, 40, 41, 42, 43, 44, 45, 46, 47, 48, 49, 50, 51, 4, 5, 6, 7, 8, 9, 10, 11, 12, 13, 14, 15, 16, 17, 18, 19] z33) (g_sel [36, 37, 38, 39, 40, 41, 42, 43, 44, 45, 46, 47, 48, 49, 50, 51, 4, 5, 6, 7, 8, 9, 10, 11, 12, 13, 14, 15, 16, 17, 18, 19] h) [.ref ((g_sel [36, 37, 38, 39, 40, 41, 42, 43, 44, 45, 46, 47, 48, 49, 50, 51, 4, 5, 6, 7, 8, 9, 10, 11, 12, 13, 14, 15, 16, 17, 18, 19] qz33) 0), .ref ((g_sel [36, 37, 38, 39, 40, 41, 42, 43, 44, 45, 46, 47, 48, 49, 50, 51, 4, 5, 6, 7, 8, 9, 10, 11, 12, 13, 14, 15, 16, 17, 18, 19] qz33) 16)] z36 (g_sel [36, 37, 38, 39, 40, 41, 42, 43, 44, 45, 46, 47, 48, 49, 50, 51, 4, 5, 6, 7, 8, 9, 10, 11, 12, 13, 14, 15, 16, 17, 18, 19] h) := by rw [hz36]; exact c_s_becomeLike l G (g_sel [36, 37, 38, 39, 40, 41, 42, 43, 44, 45, 46, 47, 48, 49, 50, 51, 4, 5, 6, 7, 8, 9, 10, 11, 12, 13, 14, 15, 16, 17, 18, 19] qz33) (g_sel [36, 37, 38, 39, 40, 41, 42, 43, 44, 45, 46, 47, 48, 49, 50, 51, 4, 5, 6, 7, 8, 9, 10, 11, 12, 13, 14, 15, 16, 17, 18, 19] z33) (g_sel [36, 37, 38, 39, 40, 41, 42, 43, 44, 45, 46, 47, 48, 49, 50, 51, 4, 5, 6, 7, 8, 9, 10, 11, 12, 13, 14, 15, 16, 17, 18, 19] h) s35
      refine x_callVv (n := 1) C hqqz33 (gFr_sub gs_H_SS_36_37) (hmz36) (cwV 1 C.2.2.2.2.2.1 gX2_saveState_X1_becomeLike rfl rfl rfl (by decide +kernel) ⟨Nat.le_of_ble_eq_true rfl, Nat.le_of_ble_eq_true rfl⟩) rfl rfl rfl rfl (Nat.le_of_ble_eq_true rfl) dX2_saveState_26 (Nat.zero_le _) (Nat.zero_le _) ?_
      obtain ⟨z37, hz37⟩ : ∃ y9 : gM, y9 = g_mrg [36, 37, 38, 39, 40, 41, 42, 43, 44, 45, 46, 47, 48, 49, 50, 51, 4, 5, 6, 7, 8, 9, 10, 11, 12, 13, 14, 15, 16, 17, 18, 19] z33 z36 := ⟨_, rfl⟩
      have hf := hf.trans (g_let_eq hz37)
      have hok := g_let_p hz37 hok
      refine x_mu hz37 (g_mrg_id gs_H_SS_36_37.1) ?_
      refine x_aload_n C dX2_saveState_29 rfl 0 rfl ?_
      refine x_dup C dX2_saveState_30 rfl ?_
      refine x_get (v := .int (z37 0 3)) C in_X2_saveState_2 0 rfl rfl 3 (by decide) k_X2_saveState_23 rfl rfl dX2_saveState_31 ?_
      refine x_iconst (v := (1 : Int32)) C dX2_saveState_34 (by decide) ?_
      refine x_iadd C dX2_saveState_35 ?_
      obtain ⟨z38, hz38⟩ : ∃ y9 : gM, y9 = g_set z37 0 (upd (z37 0) 3 ((z37 0 3) + (1 : Int32))) := ⟨_, rfl⟩
      have hf := hf.trans (g_let_eq hz38)
      have hok := g_let_p hz38 hok
      refine x_puti (μ' := z38) (ty := .int) C hqqz33 tyX2 tyX2_ok nmX2 in_X2_saveState_2 0 rfl rfl 3 (by decide) k_X2_saveState_23 rfl (tyX2_ok 3 (by decide)) rfl rfl rfl hz38 dX2_saveState_36 ?_
      exact g_pvret C hqqz33 h4qz33 hr dX2_saveState_39 hf.symm rfl
    · have hf := hf.trans (if_neg c34)
      have hok := g_in c34 hok
      by_cases c39 : (z33 0 3) = (1 : Int32)
      · have hf := hf.trans (if_pos c39)
        have hok := g_ip c39 hok
        refine x_aald (v := (1 : Int32)) (j := 52) C 1 rfl c39 (by unfold vp_in; decide) rfl dX2_saveState_21 ?_
        refine x_aload_n C dX2_saveState_22 rfl 0 rfl ?_
        refine x_get (v := .ref (qz33 4)) C in_X2_saveState_2 0 rfl rfl 0 (by decide) k_X2_saveState_10 rfl rfl dX2_saveState_23 ?_
        have s40 := And.left hok
        have hok := And.right hok
        obtain ⟨z41, hz41⟩ : ∃ y9 : gM, y9 = f_s_becomeLike (g_sel [52, 53, 54, 55, 56, 57, 58, 59, 60, 61, 62, 63, 64, 65, 66, 67, 4, 5, 6, 7, 8, 9, 10, 11, 12, 13, 14, 15, 16, 17, 18, 19] z33) := ⟨_, rfl⟩
        have hf := hf.trans (g_let_eq hz41)
        have hok := g_let_p hz41 hok
        have hmz41 : gMv l yX1_becomeLike wsX1_becomeLike rm_s_becomeLike G shSS (g_sel [52, 53, 54, 55, 56, 57, 58, 59, 60, 61, 62, 63, 64, 65, 66, 67, 4, 5, 6, 7, 8, 9, 10, 11, 12, 13, 14, 15, 16, 17, 18, 19] qz33) (g_sel [52, 53, 54, 55, 56, 57, 58, 59, 60, 61, 62, 63, 64, 65, 66, 67, 4, 5, 6, 7, 8, 9, 10, 11, 12, 13, 14, 15, 16, 17, 18, 19] z33) (g_sel [52, 53, 54, 55, 56, 57, 58, 59, 60, 61, 62, 63, 64, 65, 66, 67, 4, 5, 6, 7, 8, 9, 10, 11, 12, 13, 14, 15, 16, 17, 18, 19] h) [.ref ((g_sel [52, 53, 54, 55, 56, 57, 58, 59, 60, 61, 62, 63, 64, 65, 66, 67, 4, 5, 6, 7, 8, 9, 10, 11, 12, 13, 14, 15, 16, 17, 18, 19] qz33) 0), .ref ((g_sel [52, 53, 54, 55, 56, 57, 58, 59, 60, 61, 62, 63, 64, 65, 66, 67, 4, 5, 6, 7, 8, 9, 10, 11, 12, 13, 14, 15, 16, 17, 18, 19] qz33) 16)] z41 (g_sel [52, 53, 54, 55, 56, 57, 58, 59, 60, 61, 62, 63, 64, 65, 66, 67, 4, 5, 6, 7, 8, 9, 10, 11, 12, 13, 14, 15, 16, 17, 18, 19] h) := by rw [hz41]; exact c_s_becomeLike l G (g_sel [52, 53, 54, 55, 56, 57, 58, 59, 60, 61, 62, 63, 64, 65, 66, 67, 4, 5, 6, 7, 8, 9, 10, 11, 12, 13, 14, 15, 16, 17, 18, 19] qz33) (g_sel [52, 53, 54, 55, 56, 57, 58, 59, 60, 61, 62, 63, 64, 65, 66, 67, 4, 5, 6, 7, 8, 9, 10, 11, 12, 13, 14, 15, 16, 17, 18, 19] z33) (g_sel [52, 53, 54, 55, 56, 57, 58, 59, 60, 61, 62, 63, 64, 65, 66, 67, 4, 5, 6, 7, 8, 9, 10, 11, 12, 13, 14, 15, 16, 17, 18, 19] h) s40
        refine x_callVv (n := 1) C hqqz33 (gFr_sub gs_H_SS_52_53) (hmz41) (cwV 1 C.2.2.2.2.2.1 gX2_saveState_X1_becomeLike rfl rfl rfl (by decide +kernel) ⟨Nat.le_of_ble_eq_true rfl, Nat.le_of_ble_eq_true rfl⟩) rfl rfl rfl rfl (Nat.le_of_ble_eq_true rfl) dX2_saveState_26 (Nat.zero_le _) (Nat.zero_le _) ?_
        obtain ⟨z42, hz42⟩ : ∃ y9 : gM, y9 = g_mrg [52, 53, 54, 55, 56, 57, 58, 59, 60, 61, 62, 63, 64, 65, 66, 67, 4, 5, 6, 7, 8, 9, 10, 11, 12, 13, 14, 15, 16, 17, 18, 19] z33 z41 := ⟨_, rfl⟩
        have hf := hf.trans (g_let_eq hz42)
        have hok := g_let_p hz42 hok
        refine x_mu hz42 (g_mrg_id gs_H_SS_52_53.1) ?_
        refine x_aload_n C dX2_saveState_29 rfl 0 rfl ?_
        refine x_dup C dX2_saveState_30 rfl ?_
        refine x_get (v := .int (z42 0 3)) C in_X2_saveState_2 0 rfl rfl 3 (by decide) k_X2_saveState_23 rfl rfl dX2_saveState_31 ?_
        refine x_iconst (v := (1 : Int32)) C dX2_saveState_34 (by decide) ?_
        refine x_iadd C dX2_saveState_35 ?_
        obtain ⟨z43, hz43⟩ : ∃ y9 : gM, y9 = g_set z42 0 (upd (z42 0) 3 ((z42 0 3) + (1 : Int32))) := ⟨_, rfl⟩
        have hf := hf.trans (g_let_eq hz43)
        have hok := g_let_p hz43 hok
        refine x_puti (μ' := z43) (ty := .int) C hqqz33 tyX2 tyX2_ok nmX2 in_X2_saveState_2 0 rfl rfl 3 (by decide) k_X2_saveState_23 rfl (tyX2_ok 3 (by decide)) rfl rfl rfl hz43 dX2_saveState_36 ?_
        exact g_pvret C hqqz33 h4qz33 hr dX2_saveState_39 hf.symm rfl
      · have hf := hf.trans (if_neg c39)
        have hok := g_in c39 hok
        by_cases c44 : (z33 0 3) = (2 : Int32)
        · have hf := hf.trans (if_pos c44)
          have hok := g_ip c44 hok
          refine x_aald (v := (2 : Int32)) (j := 68) C 1 rfl c44 (by unfold vp_in; decide) rfl dX2_saveState_21 ?_
          refine x_aload_n C dX2_saveState_22 rfl 0 rfl ?_
          refine x_get (v := .ref (qz33 4)) C in_X2_saveState_2 0 rfl rfl 0 (by decide) k_X2_saveState_10 rfl rfl dX2_saveState_23 ?_
          have s45 := And.left hok
          have hok := And.right hok
          obtain ⟨z46, hz46⟩ : ∃ y9 : gM, y9 = f_s_becomeLike (g_sel [68, 69, 70, 71, 72, 73, 74, 75, 76, 77, 78, 79, 80, 81, 82, 83, 4, 5, 6, 7, 8, 9, 10, 11, 12, 13, 14, 15, 16, 17, 18, 19] z33) := ⟨_, rfl⟩
          have hf := hf.trans (g_let_eq hz46)
          have hok := g_let_p hz46 hok
          have hmz46 : gMv l yX1_becomeLike wsX1_becomeLike rm_s_becomeLike G shSS (g_sel [68, 69, 70, 71, 72, 73, 74, 75, 76, 77, 78, 79, 80, 81, 82, 83, 4, 5, 6, 7, 8, 9, 10, 11, 12, 13, 14, 15, 16, 17, 18, 19] qz33) (g_sel [68, 69, 70, 71, 72, 73, 74, 75, 76, 77, 78, 79, 80, 81, 82, 83, 4, 5, 6, 7, 8, 9, 10, 11, 12, 13, 14, 15, 16, 17, 18, 19] z33) (g_sel [68, 69, 70, 71, 72, 73, 74, 75, 76, 77, 78, 79, 80, 81, 82, 83, 4, 5, 6, 7, 8, 9, 10, 11, 12, 13, 14, 15, 16, 17, 18, 19] h) [.ref ((g_sel [68, 69, 70, 71, 72, 73, 74, 75, 76, 77, 78, 79, 80, 81, 82, 83, 4, 5, 6, 7, 8, 9, 10, 11, 12, 13, 14, 15, 16, 17, 18, 19] qz33) 0), .ref ((g_sel [68, 69, 70, 71, 72, 73, 74, 75, 76, 77, 78, 79, 80, 81, 82, 83, 4, 5, 6, 7, 8, 9, 10, 11, 12, 13, 14, 15, 16, 17, 18, 19] qz33) 16)] z46 (g_sel [68, 69, 70, 71, 72, 73, 74, 75, 76, 77, 78, 79, 80, 81, 82, 83, 4, 5, 6, 7, 8, 9, 10, 11, 12, 13, 14, 15, 16, 17, 18, 19] h) := by rw [hz46]; exact c_s_becomeLike l G (g_sel [68, 69, 70, 71, 72, 73, 74, 75, 76, 77, 78, 79, 80, 81, 82, 83, 4, 5, 6, 7, 8, 9, 10, 11, 12, 13, 14, 15, 16, 17, 18, 19] qz33) (g_sel [68, 69, 70, 71, 72, 73, 74, 75, 76, 77, 78, 79, 80, 81, 82, 83, 4, 5, 6, 7, 8, 9, 10, 11, 12, 13, 14, 15, 16, 17, 18, 19] z33) (g_sel [68, 69, 70, 71, 72, 73, 74, 75, 76, 77, 78, 79, 80, 81, 82, 83, 4, 5, 6, 7, 8, 9, 10, 11, 12, 13, 14, 15, 16, 17, 18, 19] h) s45
          refine x_callVv (n := 1) C hqqz33 (gFr_sub gs_H_SS_68_69) (hmz46) (cwV 1 C.2.2.2.2.2.1 gX2_saveState_X1_becomeLike rfl rfl rfl (by decide +kernel) ⟨Nat.le_of_ble_eq_true rfl, Nat.le_of_ble_eq_true rfl⟩) rfl rfl rfl rfl (Nat.le_of_ble_eq_true rfl) dX2_saveState_26 (Nat.zero_le _) (Nat.zero_le _) ?_
          obtain ⟨z47, hz47⟩ : ∃ y9 : gM, y9 = g_mrg [68, 69, 70, 71, 72, 73, 74, 75, 76, 77, 78, 79, 80, 81, 82, 83, 4, 5, 6, 7, 8, 9, 10, 11, 12, 13, 14, 15, 16, 17, 18, 19] z33 z46 := ⟨_, rfl⟩
          have hf := hf.trans (g_let_eq hz47)
          have hok := g_let_p hz47 hok
          refine x_mu hz47 (g_mrg_id gs_H_SS_68_69.1) ?_
          refine x_aload_n C dX2_saveState_29 rfl 0 rfl ?_
          refine x_dup C dX2_saveState_30 rfl ?_
          refine x_get (v := .int (z47 0 3)) C in_X2_saveState_2 0 rfl rfl 3 (by decide) k_X2_saveState_23 rfl rfl dX2_saveState_31 ?_
          refine x_iconst (v := (1 : Int32)) C dX2_saveState_34 (by decide) ?_
          refine x_iadd C dX2_saveState_35 ?_
          obtain ⟨z48, hz48⟩ : ∃ y9 : gM, y9 = g_set z47 0 (upd (z47 0) 3 ((z47 0 3) + (1 : Int32))) := ⟨_, rfl⟩
          have hf := hf.trans (g_let_eq hz48)
          have hok := g_let_p hz48 hok
          refine x_puti (μ' := z48) (ty := .int) C hqqz33 tyX2 tyX2_ok nmX2 in_X2_saveState_2 0 rfl rfl 3 (by decide) k_X2_saveState_23 rfl (tyX2_ok 3 (by decide)) rfl rfl rfl hz48 dX2_saveState_36 ?_
          exact g_pvret C hqqz33 h4qz33 hr dX2_saveState_39 hf.symm rfl
        · have hf := hf.trans (if_neg c44)
          have hok := g_in c44 hok
          by_cases c49 : (z33 0 3) = (3 : Int32)
          · have hf := hf.trans (if_pos c49)
            have hok := g_ip c49 hok
            refine x_aald (v := (3 : Int32)) (j := 84) C 1 rfl c49 (by unfold vp_in; decide) rfl dX2_saveState_21 ?_
            refine x_aload_n C dX2_saveState_22 rfl 0 rfl ?_
            refine x_get (v := .ref (qz33 4)) C in_X2_saveState_2 0 rfl rfl 0 (by decide) k_X2_saveState_10 rfl rfl dX2_saveState_23 ?_
            have s50 := And.left hok
            have hok := And.right hok
            obtain ⟨z51, hz51⟩ : ∃ y9 : gM, y9 = f_s_becomeLike (g_sel [84, 85, 86, 87, 88, 89, 90, 91, 92, 93, 94, 95, 96, 97, 98, 99, 4, 5, 6, 7, 8, 9, 10, 11, 12, 13, 14, 15, 16, 17, 18, 19] z33) := ⟨_, rfl⟩
            have hf := hf.trans (g_let_eq hz51)
            have hok := g_let_p hz51 hok
            have hmz51 : gMv l yX1_becomeLike wsX1_becomeLike rm_s_becomeLike G shSS (g_sel [84, 85, 86, 87, 88, 89, 90, 91, 92, 93, 94, 95, 96, 97, 98, 99, 4, 5, 6, 7, 8, 9, 10, 11, 12, 13, 14, 15, 16, 17, 18, 19] qz33) (g_sel [84, 85, 86, 87, 88, 89, 90, 91, 92, 93, 94, 95, 96, 97, 98, 99, 4, 5, 6, 7, 8, 9, 10, 11, 12, 13, 14, 15, 16, 17, 18, 19] z33) (g_sel [84, 85, 86, 87, 88, 89, 90, 91, 92, 93, 94, 95, 96, 97, 98, 99, 4, 5, 6, 7, 8, 9, 10, 11, 12, 13, 14, 15, 16, 17, 18, 19] h) [.ref ((g_sel [84, 85, 86, 87, 88, 89, 90, 91, 92, 93, 94, 95, 96, 97, 98, 99, 4, 5, 6, 7, 8, 9, 10, 11, 12, 13, 14, 15, 16, 17, 18, 19] qz33) 0), .ref ((g_sel [84, 85, 86, 87, 88, 89, 90, 91, 92, 93, 94, 95, 96, 97, 98, 99, 4, 5, 6, 7, 8, 9, 10, 11, 12, 13, 14, 15, 16, 17, 18, 19] qz33) 16)] z51 (g_sel [84, 85, 86, 87, 88, 89, 90, 91, 92, 93, 94, 95, 96, 97, 98, 99, 4, 5, 6, 7, 8, 9, 10, 11, 12, 13, 14, 15, 16, 17, 18, 19] h) := by rw [hz51]; exact c_s_becomeLike l G (g_sel [84, 85, 86, 87, 88, 89, 90, 91, 92, 93, 94, 95, 96, 97, 98, 99, 4, 5, 6, 7, 8, 9, 10, 11, 12, 13, 14, 15, 16, 17, 18, 19] qz33) (g_sel [84, 85, 86, 87, 88, 89, 90, 91, 92, 93, 94, 95, 96, 97, 98, 99, 4, 5, 6, 7, 8, 9, 10, 11, 12, 13, 14, 15, 16, 17, 18, 19] z33) (g_sel [84, 85, 86, 87, 88, 89, 90, 91, 92, 93, 94, 95, 96, 97, 98, 99, 4, 5, 6, 7, 8, 9, 10, 11, 12, 13, 14, 15, 16, 17, 18, 19] h) s50
            refine x_callVv (n := 1) C hqqz33 (gFr_sub gs_H_SS_84_85) (hmz51) (cwV 1 C.2.2.2.2.2.1 gX2_saveState_X1_becomeLike rfl rfl rfl (by decide +kernel) ⟨Nat.le_of_ble_eq_true rfl, Nat.le_of_ble_eq_true rfl⟩) rfl rfl rfl rfl (Nat.le_of_ble_eq_true rfl) dX2_saveState_26 (Nat.zero_le _) (Nat.zero_le _) ?_
            obtain ⟨z52, hz52⟩ : ∃ y9 : gM, y9 = g_mrg [84, 85, 86, 87, 88, 89, 90, 91, 92, 93, 94, 95, 96, 97, 98, 99, 4, 5, 6, 7, 8, 9, 10, 11, 12, 13, 14, 15, 16, 17, 18, 19] z33 z51 := ⟨_, rfl⟩
            have hf := hf.trans (g_let_eq hz52)
            have hok := g_let_p hz52 hok
            refine x_mu hz52 (g_mrg_id gs_H_SS_84_85.1) ?_
            refine x_aload_n C dX2_saveState_29 rfl 0 rfl ?_
            refine x_dup C dX2_saveState_30 rfl ?_
            refine x_get (v := .int (z52 0 3)) C in_X2_saveState_2 0 rfl rfl 3 (by decide) k_X2_saveState_23 rfl rfl dX2_saveState_31 ?_
            refine x_iconst (v := (1 : Int32)) C dX2_saveState_34 (by decide) ?_
            refine x_iadd C dX2_saveState_35 ?_
            obtain ⟨z53, hz53⟩ : ∃ y9 : gM, y9 = g_set z52 0 (upd (z52 0) 3 ((z52 0 3) + (1 : Int32))) := ⟨_, rfl⟩
            have hf := hf.trans (g_let_eq hz53)
            have hok := g_let_p hz53 hok
            refine x_puti (μ' := z53) (ty := .int) C hqqz33 tyX2 tyX2_ok nmX2 in_X2_saveState_2 0 rfl rfl 3 (by decide) k_X2_saveState_23 rfl (tyX2_ok 3 (by decide)) rfl rfl rfl hz53 dX2_saveState_36 ?_
            exact g_pvret C hqqz33 h4qz33 hr dX2_saveState_39 hf.symm rfl
          · have hf := hf.trans (if_neg c49)
            have hok := g_in c49 hok
            by_cases c54 : (z33 0 3) = (4 : Int32)
            · have hf := hf.trans (if_pos c54)
              have hok := g_ip c54 hok
              refine x_aald (v := (4 : Int32)) (j := 100) C 1 rfl c54 (by unfold vp_in; decide) rfl dX2_saveState_21 ?_
              refine x_aload_n C dX2_saveState_22 rfl 0 rfl ?_
              refine x_get (v := .ref (qz33 4)) C in_X2_saveState_2 0 rfl rfl 0 (by decide) k_X2_saveState_10 rfl rfl dX2_saveState_23 ?_
              have s55 := And.left hok
              have hok := And.right hok
              obtain ⟨z56, hz56⟩ : ∃ y9 : gM, y9 = f_s_becomeLike (g_sel [100, 101, 102, 103, 104, 105, 106, 107, 108, 109, 110, 111, 112, 113, 114, 115, 4, 5, 6, 7, 8, 9, 10, 11, 12, 13, 14, 15, 16, 17, 18, 19] z33) := ⟨_, rfl⟩
              have hf := hf.trans (g_let_eq hz56)
              have hok := g_let_p hz56 hok
              have hmz56 : gMv l yX1_becomeLike wsX1_becomeLike rm_s_becomeLike G shSS (g_sel [100, 101, 102, 103, 104, 105, 106, 107, 108, 109, 110, 111, 112, 113, 114, 115, 4, 5, 6, 7, 8, 9, 10, 11, 12, 13, 14, 15, 16, 17, 18, 19] qz33) (g_sel [100, 101, 102, 103, 104, 105, 106, 107, 108, 109, 110, 111, 112, 113, 114, 115, 4, 5, 6, 7, 8, 9, 10, 11, 12, 13, 14, 15, 16, 17, 18, 19] z33) (g_sel [100, 101, 102, 103, 104, 105, 106, 107, 108, 109, 110, 111, 112, 113, 114, 115, 4, 5, 6, 7, 8, 9, 10, 11, 12, 13, 14, 15, 16, 17, 18, 19] h) [.ref ((g_sel [100, 101, 102, 103, 104, 105, 106, 107, 108, 109, 110, 111, 112, 113, 114, 115, 4, 5, 6, 7, 8, 9, 10, 11, 12, 13, 14, 15, 16, 17, 18, 19] qz33) 0), .ref ((g_sel [100, 101, 102, 103, 104, 105, 106, 107, 108, 109, 110, 111, 112, 113, 114, 115, 4, 5, 6, 7, 8, 9, 10, 11, 12, 13, 14, 15, 16, 17, 18, 19] qz33) 16)] z56 (g_sel [100, 101, 102, 103, 104, 105, 106, 107, 108, 109, 110, 111, 112, 113, 114, 115, 4, 5, 6, 7, 8, 9, 10, 11, 12, 13, 14, 15, 16, 17, 18, 19] h) := by rw [hz56]; exact c_s_becomeLike l G (g_sel [100, 101, 102, 103, 104, 105, 106, 107, 108, 109, 110, 111, 112, 113, 114, 115, 4, 5, 6, 7, 8, 9, 10, 11, 12, 13, 14, 15, 16, 17, 18, 19] qz33) (g_sel [100, 101, 102, 103, 104, 105, 106, 107, 108, 109, 110, 111, 112, 113, 114, 115, 4, 5, 6, 7, 8, 9, 10, 11, 12, 13, 14, 15, 16, 17, 18, 19] z33) (g_sel [100, 101, 102, 103, 104, 105, 106, 107, 108, 109, 110, 111, 112, 113, 114, 115, 4, 5, 6, 7, 8, 9, 10, 11, 12, 13, 14, 15, 16, 17, 18, 19] h) s55
              refine x_callVv (n := 1) C hqqz33 (gFr_sub gs_H_SS_100_101) (hmz56) (cwV 1 C.2.2.2.2.2.1 gX2_saveState_X1_becomeLike rfl rfl rfl (by decide +kernel) ⟨Nat.le_of_ble_eq_true rfl, Nat.le_of_ble_eq_true rfl⟩) rfl rfl rfl rfl (Nat.le_of_ble_eq_true rfl) dX2_saveState_26 (Nat.zero_le _) (Nat.zero_le _) ?_
              obtain ⟨z57, hz57⟩ : ∃ y9 : gM, y9 = g_mrg [100, 101, 102, 103, 104, 105, 106, 107, 108, 109, 110, 111, 112, 113, 114, 115, 4, 5, 6, 7, 8, 9, 10, 11, 12, 13, 14, 15, 16, 17, 18, 19] z33 z56 := ⟨_, rfl⟩
              have hf := hf.trans (g_let_eq hz57)
              have hok := g_let_p hz57 hok
              refine x_mu hz57 (g_mrg_id gs_H_SS_100_101.1) ?_
              refine x_aload_n C dX2_saveState_29 rfl 0 rfl ?_
              refine x_dup C dX2_saveState_30 rfl ?_
              refine x_get (v := .int (z57 0 3)) C in_X2_saveState_2 0 rfl rfl 3 (by decide) k_X2_saveState_23 rfl rfl dX2_saveState_31 ?_
              refine x_iconst (v := (1 : Int32)) C dX2_saveState_34 (by decide) ?_
              refine x_iadd C dX2_saveState_35 ?_
              obtain ⟨z58, hz58⟩ : ∃ y9 : gM, y9 = g_set z57 0 (upd (z57 0) 3 ((z57 0 3) + (1 : Int32))) := ⟨_, rfl⟩
              have hf := hf.trans (g_let_eq hz58)
              have hok := g_let_p hz58 hok
              refine x_puti (μ' := z58) (ty := .int) C hqqz33 tyX2 tyX2_ok nmX2 in_X2_saveState_2 0 rfl rfl 3 (by decide) k_X2_saveState_23 rfl (tyX2_ok 3 (by decide)) rfl rfl rfl hz58 dX2_saveState_36 ?_
              exact g_pvret C hqqz33 h4qz33 hr dX2_saveState_39 hf.symm rfl
            · have hf := hf.trans (if_neg c54)
              have hok := g_in c54 hok
              by_cases c59 : (z33 0 3) = (5 : Int32)
              · have hf := hf.trans (if_pos c59)
                have hok := g_ip c59 hok
                refine x_aald (v := (5 : Int32)) (j := 116) C 1 rfl c59 (by unfold vp_in; decide) rfl dX2_saveState_21 ?_
                refine x_aload_n C dX2_saveState_22 rfl 0 rfl ?_
                refine x_get (v := .ref (qz33 4)) C in_X2_saveState_2 0 rfl rfl 0 (by decide) k_X2_saveState_10 rfl rfl dX2_saveState_23 ?_
                have s60 := And.left hok
                have hok := And.right hok
                obtain ⟨z61, hz61⟩ : ∃ y9 : gM, y9 = f_s_becomeLike (g_sel [116, 117, 118, 119, 120, 121, 122, 123, 124, 125, 126, 127, 128, 129, 130, 131, 4, 5, 6, 7, 8, 9, 10, 11, 12, 13, 14, 15, 16, 17, 18, 19] z33) := ⟨_, rfl⟩
                have hf := hf.trans (g_let_eq hz61)
                have hok := g_let_p hz61 hok
                have hmz61 : gMv l yX1_becomeLike wsX1_becomeLike rm_s_becomeLike G shSS (g_sel [116, 117, 118, 119, 120, 121, 122, 123, 124, 125, 126, 127, 128, 129, 130, 131, 4, 5, 6, 7, 8, 9, 10, 11, 12, 13, 14, 15, 16, 17, 18, 19] qz33) (g_sel [116, 117, 118, 119, 120, 121, 122, 123, 124, 125, 126, 127, 128, 129, 130, 131, 4, 5, 6, 7, 8, 9, 10, 11, 12, 13, 14, 15, 16, 17, 18, 19] z33) (g_sel [116, 117, 118, 119, 120, 121, 122, 123, 124, 125, 126, 127, 128, 129, 130, 131, 4, 5, 6, 7, 8, 9, 10, 11, 12, 13, 14, 15, 16, 17, 18, 19] h) [.ref ((g_sel [116, 117, 118, 119, 120, 121, 122, 123, 124, 125, 126, 127, 128, 129, 130, 131, 4, 5, 6, 7, 8, 9, 10, 11, 12, 13, 14, 15, 16, 17, 18, 19] qz33) 0), .ref ((g_sel [116, 117, 118, 119, 120, 121, 122, 123, 124, 125, 126, 127, 128, 129, 130, 131, 4, 5, 6, 7, 8, 9, 10, 11, 12, 13, 14, 15, 16, 17, 18, 19] qz33) 16)] z61 (g_sel [116, 117, 118, 119, 120, 121, 122, 123, 124, 125, 126, 127, 128, 129, 130, 131, 4, 5, 6, 7, 8, 9, 10, 11, 12, 13, 14, 15, 16, 17, 18, 19] h) := by rw [hz61]; exact c_s_becomeLike l G (g_sel [116, 117, 118, 119, 120, 121, 122, 123, 124, 125, 126, 127, 128, 129, 130, 131, 4, 5, 6, 7, 8, 9, 10, 11, 12, 13, 14, 15, 16, 17, 18, 19] qz33) (g_sel [116, 117, 118, 119, 120, 121, 122, 123, 124, 125, 126, 127, 128, 129, 130, 131, 4, 5, 6, 7, 8, 9, 10, 11, 12, 13, 14, 15, 16, 17, 18, 19] z33) (g_sel [116, 117, 118, 119, 120, 121, 122, 123, 124, 125, 126, 127, 128, 129, 130, 131, 4, 5, 6, 7, 8, 9, 10, 11, 12, 13, 14, 15, 16, 17, 18, 19] h) s60
                refine x_callVv (n := 1) C hqqz33 (gFr_sub gs_H_SS_116_117) (hmz61) (cwV 1 C.2.2.2.2.2.1 gX2_saveState_X1_becomeLike rfl rfl rfl (by decide +kernel) ⟨Nat.le_of_ble_eq_true rfl, Nat.le_of_ble_eq_true rfl⟩) rfl rfl rfl rfl (Nat.le_of_ble_eq_true rfl) dX2_saveState_26 (Nat.zero_le _) (Nat.zero_le _) ?_
                obtain ⟨z62, hz62⟩ : ∃ y9 : gM, y9 = g_mrg [116, 117, 118, 119, 120, 121, 122, 123, 124, 125, 126, 127, 128, 129, 130, 131, 4, 5, 6, 7, 8, 9, 10, 11, 12, 13, 14, 15, 16, 17, 18, 19] z33 z61 := ⟨_, rfl⟩
                have hf := hf.trans (g_let_eq hz62)
                have hok := g_let_p hz62 hok
                refine x_mu hz62 (g_mrg_id gs_H_SS_116_117.1) ?_
                refine x_aload_n C dX2_saveState_29 rfl 0 rfl ?_
                refine x_dup C dX2_saveState_30 rfl ?_
                refine x_get (v := .int (z62 0 3)) C in_X2_saveState_2 0 rfl rfl 3 (by decide) k_X2_saveState_23 rfl rfl dX2_saveState_31 ?_
                refine x_iconst (v := (1 : Int32)) C dX2_saveState_34 (by decide) ?_
                refine x_iadd C dX2_saveState_35 ?_
                obtain ⟨z63, hz63⟩ : ∃ y9 : gM, y9 = g_set z62 0 (upd (z62 0) 3 ((z62 0 3) + (1 : Int32))) := ⟨_, rfl⟩
                have hf := hf.trans (g_let_eq hz63)
                have hok := g_let_p hz63 hok
                refine x_puti (μ' := z63) (ty := .int) C hqqz33 tyX2 tyX2_ok nmX2 in_X2_saveState_2 0 rfl rfl 3 (by decide) k_X2_saveState_23 rfl (tyX2_ok 3 (by decide)) rfl rfl rfl hz63 dX2_saveState_36 ?_
                exact g_pvret C hqqz33 h4qz33 hr dX2_saveState_39 hf.symm rfl
              · have hf := hf.trans (if_neg c59)
                have hok := g_in c59 hok
                exact False.elim hok
set_option maxRecDepth 20000 in
theorem in_X2_undo_2 : ∀ w ∈ u_ws RX2 TX2 7, w ∈ wsX2_undo := by decide +kernel
set_option maxRecDepth 20000 in
theorem k_X2_undo_10 : Cond.fieldLink RX2 10 "HintedPages" "store" "LHintedPages$Store;" ∈ wsX2_undo := by decide +kernel
set_option maxRecDepth 20000 in
theorem k_X2_undo_19 : Cond.fieldLink RX2 19 "HintedPages" "saved" "[LHintedPages$Store;" ∈ wsX2_undo := by decide +kernel
set_option maxRecDepth 20000 in
theorem k_X2_undo_23 : Cond.fieldLink RX2 23 "HintedPages" "savedStates" "I" ∈ wsX2_undo := by decide +kernel
abbrev rm_h_undo : Room := { frames := 0, cells := 0, slots := 0, locals := 0 }
noncomputable def f_h_undo (m : gM) : Int32 × gM := (if 0 < (m 0 3) then g_let (g_set m 0 (upd (m 0) 3 ((m 0 3) - (1 : Int32)))) (fun z2 : gM => (if (z2 0 3) = (0 : Int32) then ((z2 0 3), (g_sel [0, 1, 2, 3, 36, 37, 38, 39, 40, 41, 42, 43, 44, 45, 46, 47, 48, 49, 50, 51, 20, 21, 22, 23, 24, 25, 26, 27, 28, 29, 30, 31, 32, 33, 34, 35, 4, 5, 6, 7, 8, 9, 10, 11, 12, 13, 14, 15, 16, 17, 18, 19, 52, 53, 54, 55, 56, 57, 58, 59, 60, 61, 62, 63, 64, 65, 66, 67, 68, 69, 70, 71, 72, 73, 74, 75, 76, 77, 78, 79, 80, 81, 82, 83, 84, 85, 86, 87, 88, 89, 90, 91, 92, 93, 94, 95, 96, 97, 98, 99, 100, 101, 102, 103, 104, 105, 106, 107, 108, 109, 110, 111, 112, 113, 114, 115, 116, 117, 118, 119, 120, 121, 122, 123, 124, 125, 126, 127, 128, 129, 130, 131] z2)) else (if (z2 0 3) = (1 : Int32) then ((z2 0 3), (g_sel [0, 1, 2, 3, 52, 53, 54, 55, 56, 57, 58, 59, 60, 61, 62, 63, 64, 65, 66, 67, 20, 21, 22, 23, 24, 25, 26, 27, 28, 29, 30, 31, 32, 33, 34, 35, 36, 37, 38, 39, 40, 41, 42, 43, 44, 45, 46, 47, 48, 49, 50, 51, 4, 5, 6, 7, 8, 9, 10, 11, 12, 13, 14, 15, 16, 17, 18, 19, 68, 69, 70, 71, 72, 73, 74, 75, 76, 77, 78, 79, 80, 81, 82, 83, 84, 85, 86, 87, 88, 89, 90, 91, 92, 93, 94, 95, 96, 97, 98, 99, 100, 101, 102, 103, 104, 105, 106, 107, 108, 109, 110, 111, 112, 113, 114, 115, 116, 117, 118, 119, 120, 121, 122, 123, 124, 125, 126, 127, 128, 129, 130, 131] z2)) else (if (z2 0 3) = (2 : Int32) then ((z2 0 3), (g_sel [0, 1, 2, 3, 68, 69, 70, 71, 72, 73, 74, 75, 76, 77, 78, 79, 80, 81, 82, 83, 20, 21, 22, 23, 24, 25, 26, 27, 28, 29, 30, 31, 32, 33, 34, 35, 36, 37, 38, 39, 40, 41, 42, 43, 44, 45, 46, 47, 48, 49, 50, 51, 52, 53, 54, 55, 56, 57, 58, 59, 60, 61, 62, 63, 64, 65, 66, 67, 4, 5, 6, 7, 8, 9, 10, 11, 12, 13, 14, 15, 16, 17, 18, 19, 84, 85, 86, 87, 88, 89, 90, 91, 92, 93, 94, 95, 96, 97, 98, 99, 100, 101, 102, 103, 104, 105, 106, 107, 108, 109, 110, 111, 112, 113, 114, 115, 116, 117, 118, 119, 120, 121, 122, 123, 124, 125, 126, 127, 128, 129, 130, 131] z2)) else (if (z2 0 3) = (3 : Int32) then ((z2 0 3), (g_sel [0, 1, 2, 3, 84, 85, 86, 87, 88, 89, 90, 91, 92, 93, 94, 95, 96, 97, 98, 99, 20, 21, 22, 23, 24, 25, 26, 27, 28, 29, 30, 31, 32, 33, 34, 35, 36, 37, 38, 39, 40, 41, 42, 43, 44, 45, 46, 47, 48, 49, 50, 51, 52, 53, 54, 55, 56, 57, 58, 59, 60, 61, 62, 63, 64, 65, 66, 67, 68, 69, 70, 71, 72, 73, 74, 75, 76, 77, 78, 79, 80, 81, 82, 83, 4, 5, 6, 7, 8, 9, 10, 11, 12, 13, 14, 15, 16, 17, 18, 19, 100, 101, 102, 103, 104, 105, 106, 107, 108, 109, 110, 111, 112, 113, 114, 115, 116, 117, 118, 119, 120, 121, 122, 123, 124, 125, 126, 127, 128, 129, 130, 131] z2)) else (if (z2 0 3) = (4 : Int32) then ((z2 0 3), (g_sel [0, 1, 2, 3, 100, 101, 102, 103, 104, 105, 106, 107, 108, 109, 110, 111, 112, 113, 114, 115, 20, 21, 22, 23, 24, 25, 26, 27, 28, 29, 30, 31, 32, 33, 34, 35, 36, 37, 38, 39, 40, 41, 42, 43, 44, 45, 46, 47, 48, 49, 50, 51, 52, 53, 54, 55, 56, 57, 58, 59, 60, 61, 62, 63, 64, 65, 66, 67, 68, 69, 70, 71, 72, 73, 74, 75, 76, 77, 78, 79, 80, 81, 82, 83, 84, 85, 86, 87, 88, 89, 90, 91, 92, 93, 94, 95, 96, 97, 98, 99, 4, 5, 6, 7, 8, 9, 10, 11, 12, 13, 14, 15, 16, 17, 18, 19, 116, 117, 118, 119, 120, 121, 122, 123, 124, 125, 126, 127, 128, 129, 130, 131] z2)) else (if (z2 0 3) = (5 : Int32) then ((z2 0 3), (g_sel [0, 1, 2, 3, 116, 117, 118, 119, 120, 121, 122, 123, 124, 125, 126, 127, 128, 129, 130, 131, 20, 21, 22, 23, 24, 25, 26, 27, 28, 29, 30, 31, 32, 33, 34, 35, 36, 37, 38, 39, 40, 41, 42, 43, 44, 45, 46, 47, 48, 49, 50, 51, 52, 53, 54, 55, 56, 57, 58, 59, 60, 61, 62, 63, 64, 65, 66, 67, 68, 69, 70, 71, 72, 73, 74, 75, 76, 77, 78, 79, 80, 81, 82, 83, 84, 85, 86, 87, 88, 89, 90, 91, 92, 93, 94, 95, 96, 97, 98, 99, 100, 101, 102, 103, 104, 105, 106, 107, 108, 109, 110, 111, 112, 113, 114, 115, 4, 5, 6, 7, 8, 9, 10, 11, 12, 13, 14, 15, 16, 17, 18, 19] z2)) else ((0 : Int32), z2)))))))) else ((0 : Int32), m))
noncomputable def o_h_undo (m : gM) : Prop := (if 0 < (m 0 3) then g_let (g_set m 0 (upd (m 0) 3 ((m 0 3) - (1 : Int32)))) (fun z2 : gM => (if (z2 0 3) = (0 : Int32) then True else (if (z2 0 3) = (1 : Int32) then True else (if (z2 0 3) = (2 : Int32) then True else (if (z2 0 3) = (3 : Int32) then True else (if (z2 0 3) = (4 : Int32) then True else (if (z2 0 3) = (5 : Int32) then True else False))))))) else False)
set_option maxRecDepth 100000 in
set_option maxHeartbeats 4000000 in
theorem c_h_undo (l : Launch) (G : gG) (q : Nat → Nat) (m : gM) (h : gN) (hok : o_h_undo m) : gMpi l yX2_undo wsX2_undo rm_h_undo G shH q 4 m h [.ref (q 0)] ((f_h_undo m).2) h ((f_h_undo m).1) := by
  intro sz
  refine g_met (cc := cX2_undo) (maxL := 2) (ret := (some .int)) (own := RX2) (Qc := fun sz => gQpi G shH q 4 ((f_h_undo m).2) h sz ((f_h_undo m).1)) (by decide) rfl rfl (Nat.le_of_ble_eq_true rfl) (fun p e s m9 below meth c C hq hr => ?_)
  refine x_lv (lv' := [(0, .ref (q 0))]) [0] rfl ?_
  have hf := f_h_undo.eq_1 m
  have hok := Eq.mp (o_h_undo.eq_1 m) hok
  refine x_aload_n C dX2_undo_0 rfl 0 rfl ?_
  refine x_get (v := .int (m 0 3)) C in_X2_undo_2 0 rfl rfl 3 (by decide) k_X2_undo_23 rfl rfl dX2_undo_1 ?_
  refine x_if_gt (tgt := 17) C dX2_undo_4 (by decide) (fun c1 => ?_) (fun c1 => ?_)
  · have hf := hf.trans (if_pos c1)
    have hok := g_ip c1 hok
    refine x_aload_n C dX2_undo_17 rfl 0 rfl ?_
    refine x_dup C dX2_undo_18 rfl ?_
    refine x_get (v := .int (m 0 3)) C in_X2_undo_2 0 rfl rfl 3 (by decide) k_X2_undo_23 rfl rfl dX2_undo_19 ?_
    refine x_iconst (v := (1 : Int32)) C dX2_undo_22 (by decide) ?_
    refine x_isub C dX2_undo_23 ?_
    obtain ⟨z2, hz2⟩ : ∃ y9 : gM, y9 = g_set m 0 (upd (m 0) 3 ((m 0 3) - (1 : Int32))) := ⟨_, rfl⟩
    have hf := hf.trans (g_let_eq hz2)
    have hok := g_let_p hz2 hok
    refine x_puti (μ' := z2) (ty := .int) C hq tyX2 tyX2_ok nmX2 in_X2_undo_2 0 rfl rfl 3 (by decide) k_X2_undo_23 rfl (tyX2_ok 3 (by decide)) rfl rfl rfl hz2 dX2_undo_24 ?_
    refine x_aload_n C dX2_undo_27 rfl 0 rfl ?_
    refine x_get (v := .ref (q 4)) C in_X2_undo_2 0 rfl rfl 0 (by decide) k_X2_undo_10 rfl rfl dX2_undo_28 ?_
    refine x_astore_n (lv' := [(0, .ref (q 0)), (1, .ref (q 4))]) C dX2_undo_31 rfl (by decide) [1, 0] rfl ?_
    refine x_aload_n C dX2_undo_32 rfl 0 rfl ?_
    refine x_aload_n C dX2_undo_33 rfl 0 rfl ?_
    refine x_get (v := .ref (q 1)) C in_X2_undo_2 0 rfl rfl 2 (by decide) k_X2_undo_19 rfl rfl dX2_undo_34 ?_
    refine x_aload_n C dX2_undo_37 rfl 0 rfl ?_
    refine x_get (v := .int (z2 0 3)) C in_X2_undo_2 0 rfl rfl 3 (by decide) k_X2_undo_23 rfl rfl dX2_undo_38 ?_
    by_cases c3 : (z2 0 3) = (0 : Int32)
    · have hf := hf.trans (if_pos c3)
      have hok := g_ip c3 hok
      refine x_aald (v := (0 : Int32)) (j := 36) C 1 rfl c3 (by unfold vp_in; decide) rfl dX2_undo_41 ?_
      refine x_putr (sh' := [.inr (.inl (2, [.inl 36, .inl 20, .inl 1, .inr (some false), .inl 2, .inr (some false), .inl 3])), .inr (.inr (.inl [some 36, some 52, some 68, some 84, some 100, some 116])), .inl 60, .inr (.inl (0, [.inr (some false), .inr (some false), .inr (some false), .inr (some false)])), .inr (.inl (1, [.inl 5, .inl 6, .inl 7, .inl 8, .inl 9, .inl 10, .inl 11, .inl 12, .inl 13, .inl 14, .inl 15, .inl 16, .inl 17, .inl 18, .inl 19, .inr (some false), .inr (some false)])), .inl 40, .inl 40, .inl 40, .inl 40, .inl 40, .inl 96, .inl 12, .inl 12, .inl 12, .inl 12, .inl 12, .inl 5, .inl 5, .inl 5, .inl 2, .inr (.inl (1, [.inl 21, .inl 22, .inl 23, .inl 24, .inl 25, .inl 26, .inl 27, .inl 28, .inl 29, .inl 30, .inl 31, .inl 32, .inl 33, .inl 34, .inl 35, .inr (some false), .inr (some false)])), .inl 40, .inl 40, .inl 40, .inl 40, .inl 40, .inl 96, .inl 12, .inl 12, .inl 12, .inl 12, .inl 12, .inl 5, .inl 5, .inl 5, .inl 2, .inr (.inl (1, [.inl 37, .inl 38, .inl 39, .inl 40, .inl 41, .inl 42, .inl 43, .inl 44, .inl 45, .inl 46, .inl 47, .inl 48, .inl 49, .inl 50, .inl 51, .inr (some false), .inr (some false)])), .inl 40, .inl 40, .inl 40, .inl 40, .inl 40, .inl 96, .inl 12, .inl 12, .inl 12, .inl 12, .inl 12, .inl 5, .inl 5, .inl 5, .inl 2, .inr (.inl (1, [.inl 53, .inl 54, .inl 55, .inl 56, .inl 57, .inl 58, .inl 59, .inl 60, .inl 61, .inl 62, .inl 63, .inl 64, .inl 65, .inl 66, .inl 67, .inr (some false), .inr (some false)])), .inl 40, .inl 40, .inl 40, .inl 40, .inl 40, .inl 96, .inl 12, .inl 12, .inl 12, .inl 12, .inl 12, .inl 5, .inl 5, .inl 5, .inl 2, .inr (.inl (1, [.inl 69, .inl 70, .inl 71, .inl 72, .inl 73, .inl 74, .inl 75, .inl 76, .inl 77, .inl 78, .inl 79, .inl 80, .inl 81, .inl 82, .inl 83, .inr (some false), .inr (some false)])), .inl 40, .inl 40, .inl 40, .inl 40, .inl 40, .inl 96, .inl 12, .inl 12, .inl 12, .inl 12, .inl 12, .inl 5, .inl 5, .inl 5, .inl 2, .inr (.inl (1, [.inl 85, .inl 86, .inl 87, .inl 88, .inl 89, .inl 90, .inl 91, .inl 92, .inl 93, .inl 94, .inl 95, .inl 96, .inl 97, .inl 98, .inl 99, .inr (some false), .inr (some false)])), .inl 40, .inl 40, .inl 40, .inl 40, .inl 40, .inl 96, .inl 12, .inl 12, .inl 12, .inl 12, .inl 12, .inl 5, .inl 5, .inl 5, .inl 2, .inr (.inl (1, [.inl 101, .inl 102, .inl 103, .inl 104, .inl 105, .inl 106, .inl 107, .inl 108, .inl 109, .inl 110, .inl 111, .inl 112, .inl 113, .inl 114, .inl 115, .inr (some false), .inr (some false)])), .inl 40, .inl 40, .inl 40, .inl 40, .inl 40, .inl 96, .inl 12, .inl 12, .inl 12, .inl 12, .inl 12, .inl 5, .inl 5, .inl 5, .inl 2, .inr (.inl (1, [.inl 117, .inl 118, .inl 119, .inl 120, .inl 121, .inl 122, .inl 123, .inl 124, .inl 125, .inl 126, .inl 127, .inl 128, .inl 129, .inl 130, .inl 131, .inr (some false), .inr (some false)])), .inl 40, .inl 40, .inl 40, .inl 40, .inl 40, .inl 96, .inl 12, .inl 12, .inl 12, .inl 12, .inl 12, .inl 5, .inl 5, .inl 5, .inl 2]) (nm := "HintedPages$Store") (j := 36) C hq tyX2 tyX2_ok nmX2 in_X2_undo_2 0 rfl rfl 0 (by decide) k_X2_undo_10 rfl (tyX2_ok 0 (by decide)) (by decide) rfl dX2_undo_42 ?_
      refine x_aload_n C dX2_undo_45 rfl 0 rfl ?_
      refine x_get (v := .ref (q 1)) C in_X2_undo_2 0 rfl rfl 2 (by decide) k_X2_undo_19 rfl rfl dX2_undo_46 ?_
      refine x_aload_n C dX2_undo_49 rfl 0 rfl ?_
      refine x_get (v := .int (z2 0 3)) C in_X2_undo_2 0 rfl rfl 3 (by decide) k_X2_undo_23 rfl rfl dX2_undo_50 ?_
      refine x_aload_n C dX2_undo_53 rfl 1 rfl ?_
      refine x_aast (sh := [.inr (.inl (2, [.inl 36, .inl 20, .inl 1, .inr (some false), .inl 2, .inr (some false), .inl 3])), .inr (.inr (.inl [some 36, some 52, some 68, some 84, some 100, some 116])), .inl 60, .inr (.inl (0, [.inr (some false), .inr (some false), .inr (some false), .inr (some false)])), .inr (.inl (1, [.inl 5, .inl 6, .inl 7, .inl 8, .inl 9, .inl 10, .inl 11, .inl 12, .inl 13, .inl 14, .inl 15, .inl 16, .inl 17, .inl 18, .inl 19, .inr (some false), .inr (some false)])), .inl 40, .inl 40, .inl 40, .inl 40, .inl 40, .inl 96, .inl 12, .inl 12, .inl 12, .inl 12, .inl 12, .inl 5, .inl 5, .inl 5, .inl 2, .inr (.inl (1, [.inl 21, .inl 22, .inl 23, .inl 24, .inl 25, .inl 26, .inl 27, .inl 28, .inl 29, .inl 30, .inl 31, .inl 32, .inl 33, .inl 34, .inl 35, .inr (some false), .inr (some false)])), .inl 40, .inl 40, .inl 40, .inl 40, .inl 40, .inl 96, .inl 12, .inl 12, .inl 12, .inl 12, .inl 12, .inl 5, .inl 5, .inl 5, .inl 2, .inr (.inl (1, [.inl 37, .inl 38, .inl 39, .inl 40, .inl 41, .inl 42, .inl 43, .inl 44, .inl 45, .inl 46, .inl 47, .inl 48, .inl 49, .inl 50, .inl 51, .inr (some false), .inr (some false)])), .inl 40, .inl 40, .inl 40, .inl 40, .inl 40, .inl 96, .inl 12, .inl 12, .inl 12, .inl 12, .inl 12, .inl 5, .inl 5, .inl 5, .inl 2, .inr (.inl (1, [.inl 53, .inl 54, .inl 55, .inl 56, .inl 57, .inl 58, .inl 59, .inl 60, .inl 61, .inl 62, .inl 63, .inl 64, .inl 65, .inl 66, .inl 67, .inr (some false), .inr (some false)])), .inl 40, .inl 40, .inl 40, .inl 40, .inl 40, .inl 96, .inl 12, .inl 12, .inl 12, .inl 12, .inl 12, .inl 5, .inl 5, .inl 5, .inl 2, .inr (.inl (1, [.inl 69, .inl 70, .inl 71, .inl 72, .inl 73, .inl 74, .inl 75, .inl 76, .inl 77, .inl 78, .inl 79, .inl 80, .inl 81, .inl 82, .inl 83, .inr (some false), .inr (some false)])), .inl 40, .inl 40, .inl 40, .inl 40, .inl 40, .inl 96, .inl 12, .inl 12, .inl 12, .inl 12, .inl 12, .inl 5, .inl 5, .inl 5, .inl 2, .inr (.inl (1, [.inl 85, .inl 86, .inl 87, .inl 88, .inl 89, .inl 90, .inl 91, .inl 92, .inl 93, .inl 94, .inl 95, .inl 96, .inl 97, .inl 98, .inl 99, .inr (some false), .inr (some false)])), .inl 40, .inl 40, .inl 40, .inl 40, .inl 40, .inl 96, .inl 12, .inl 12, .inl 12, .inl 12, .inl 12, .inl 5, .inl 5, .inl 5, .inl 2, .inr (.inl (1, [.inl 101, .inl 102, .inl 103, .inl 104, .inl 105, .inl 106, .inl 107, .inl 108, .inl 109, .inl 110, .inl 111, .inl 112, .inl 113, .inl 114, .inl 115, .inr (some false), .inr (some false)])), .inl 40, .inl 40, .inl 40, .inl 40, .inl 40, .inl 96, .inl 12, .inl 12, .inl 12, .inl 12, .inl 12, .inl 5, .inl 5, .inl 5, .inl 2, .inr (.inl (1, [.inl 117, .inl 118, .inl 119, .inl 120, .inl 121, .inl 122, .inl 123, .inl 124, .inl 125, .inl 126, .inl 127, .inl 128, .inl 129, .inl 130, .inl 131, .inr (some false), .inr (some false)])), .inl 40, .inl 40, .inl 40, .inl 40, .inl 40, .inl 96, .inl 12, .inl 12, .inl 12, .inl 12, .inl 12, .inl 5, .inl 5, .inl 5, .inl 2]) (sh' := [.inr (.inl (2, [.inl 36, .inl 20, .inl 1, .inr (some false), .inl 2, .inr (some false), .inl 3])), .inr (.inr (.inl [some 4, some 52, some 68, some 84, some 100, some 116])), .inl 60, .inr (.inl (0, [.inr (some false), .inr (some false), .inr (some false), .inr (some false)])), .inr (.inl (1, [.inl 5, .inl 6, .inl 7, .inl 8, .inl 9, .inl 10, .inl 11, .inl 12, .inl 13, .inl 14, .inl 15, .inl 16, .inl 17, .inl 18, .inl 19, .inr (some false), .inr (some false)])), .inl 40, .inl 40, .inl 40, .inl 40, .inl 40, .inl 96, .inl 12, .inl 12, .inl 12, .inl 12, .inl 12, .inl 5, .inl 5, .inl 5, .inl 2, .inr (.inl (1, [.inl 21, .inl 22, .inl 23, .inl 24, .inl 25, .inl 26, .inl 27, .inl 28, .inl 29, .inl 30, .inl 31, .inl 32, .inl 33, .inl 34, .inl 35, .inr (some false), .inr (some false)])), .inl 40, .inl 40, .inl 40, .inl 40, .inl 40, .inl 96, .inl 12, .inl 12, .inl 12, .inl 12, .inl 12, .inl 5, .inl 5, .inl 5, .inl 2, .inr (.inl (1, [.inl 37, .inl 38, .inl 39, .inl 40, .inl 41, .inl 42, .inl 43, .inl 44, .inl 45, .inl 46, .inl 47, .inl 48, .inl 49, .inl 50, .inl 51, .inr (some false), .inr (some false)])), .inl 40, .inl 40, .inl 40, .inl 40, .inl 40, .inl 96, .inl 12, .inl 12, .inl 12, .inl 12, .inl 12, .inl 5, .inl 5, .inl 5, .inl 2, .inr (.inl (1, [.inl 53, .inl 54, .inl 55, .inl 56, .inl 57, .inl 58, .inl 59, .inl 60, .inl 61, .inl 62, .inl 63, .inl 64, .inl 65, .inl 66, .inl 67, .inr (some false), .inr (some false)])), .inl 40, .inl 40, .inl 40, .inl 40, .inl 40, .inl 96, .inl 12, .inl 12, .inl 12, .inl 12, .inl 12, .inl 5, .inl 5, .inl 5, .inl 2, .inr (.inl (1, [.inl 69, .inl 70, .inl 71, .inl 72, .inl 73, .inl 74, .inl 75, .inl 76, .inl 77, .inl 78, .inl 79, .inl 80, .inl 81, .inl 82, .inl 83, .inr (some false), .inr (some false)])), .inl 40, .inl 40, .inl 40, .inl 40, .inl 40, .inl 96, .inl 12, .inl 12, .inl 12, .inl 12, .inl 12, .inl 5, .inl 5, .inl 5, .inl 2, .inr (.inl (1, [.inl 85, .inl 86, .inl 87, .inl 88, .inl 89, .inl 90, .inl 91, .inl 92, .inl 93, .inl 94, .inl 95, .inl 96, .inl 97, .inl 98, .inl 99, .inr (some false), .inr (some false)])), .inl 40, .inl 40, .inl 40, .inl 40, .inl 40, .inl 96, .inl 12, .inl 12, .inl 12, .inl 12, .inl 12, .inl 5, .inl 5, .inl 5, .inl 2, .inr (.inl (1, [.inl 101, .inl 102, .inl 103, .inl 104, .inl 105, .inl 106, .inl 107, .inl 108, .inl 109, .inl 110, .inl 111, .inl 112, .inl 113, .inl 114, .inl 115, .inr (some false), .inr (some false)])), .inl 40, .inl 40, .inl 40, .inl 40, .inl 40, .inl 96, .inl 12, .inl 12, .inl 12, .inl 12, .inl 12, .inl 5, .inl 5, .inl 5, .inl 2, .inr (.inl (1, [.inl 117, .inl 118, .inl 119, .inl 120, .inl 121, .inl 122, .inl 123, .inl 124, .inl 125, .inl 126, .inl 127, .inl 128, .inl 129, .inl 130, .inl 131, .inr (some false), .inr (some false)])), .inl 40, .inl 40, .inl 40, .inl 40, .inl 40, .inl 96, .inl 12, .inl 12, .inl 12, .inl 12, .inl 12, .inl 5, .inl 5, .inl 5, .inl 2]) (v := (0 : Int32)) (n := 0) (j := 4) C hq 1 rfl c3 (by decide) (by unfold vp_in; decide) rfl rfl dX2_undo_54 ?_
      refine x_aload_n C dX2_undo_55 rfl 0 rfl ?_
      refine x_get (v := .int (z2 0 3)) C in_X2_undo_2 0 rfl rfl 3 (by decide) k_X2_undo_23 rfl rfl dX2_undo_56 ?_
      refine x_lv (lv' := []) [] rfl ?_
      refine x_ren (sh' := shH) [0, 1, 2, 3, 36, 37, 38, 39, 40, 41, 42, 43, 44, 45, 46, 47, 48, 49, 50, 51, 20, 21, 22, 23, 24, 25, 26, 27, 28, 29, 30, 31, 32, 33, 34, 35, 4, 5, 6, 7, 8, 9, 10, 11, 12, 13, 14, 15, 16, 17, 18, 19, 52, 53, 54, 55, 56, 57, 58, 59, 60, 61, 62, 63, 64, 65, 66, 67, 68, 69, 70, 71, 72, 73, 74, 75, 76, 77, 78, 79, 80, 81, 82, 83, 84, 85, 86, 87, 88, 89, 90, 91, 92, 93, 94, 95, 96, 97, 98, 99, 100, 101, 102, 103, 104, 105, 106, 107, 108, 109, 110, 111, 112, 113, 114, 115, 116, 117, 118, 119, 120, 121, 122, 123, 124, 125, 126, 127, 128, 129, 130, 131] ⟨by decide +kernel, rfl⟩ rfl ?_
      have hq9 : gD (gA q shH.length s.heap.size) (g_sel [0, 1, 2, 3, 36, 37, 38, 39, 40, 41, 42, 43, 44, 45, 46, 47, 48, 49, 50, 51, 20, 21, 22, 23, 24, 25, 26, 27, 28, 29, 30, 31, 32, 33, 34, 35, 4, 5, 6, 7, 8, 9, 10, 11, 12, 13, 14, 15, 16, 17, 18, 19, 52, 53, 54, 55, 56, 57, 58, 59, 60, 61, 62, 63, 64, 65, 66, 67, 68, 69, 70, 71, 72, 73, 74, 75, 76, 77, 78, 79, 80, 81, 82, 83, 84, 85, 86, 87, 88, 89, 90, 91, 92, 93, 94, 95, 96, 97, 98, 99, 100, 101, 102, 103, 104, 105, 106, 107, 108, 109, 110, 111, 112, 113, 114, 115, 116, 117, 118, 119, 120, 121, 122, 123, 124, 125, 126, 127, 128, 129, 130, 131] q) shH.length := gD_sel hq (by decide +kernel) rfl (by decide +kernel)
      exact g_pret C hq9 (fun k hk => by match k, hk with | 0, _ => exact rfl | 1, _ => exact rfl | 2, _ => exact rfl | 3, _ => exact rfl) hr dX2_undo_59 (congrArg (fun z => z.1) hf).symm (congrArg (fun z => z.2) hf).symm rfl
    · have hf := hf.trans (if_neg c3)
      have hok := g_in c3 hok
      by_cases c4 : (z2 0 3) = (1 : Int32)
      · have hf := hf.trans (if_pos c4)
        have hok := g_ip c4 hok
        refine x_aald (v := (1 : Int32)) (j := 52) C 1 rfl c4 (by unfold vp_in; decide) rfl dX2_undo_41 ?_
        refine x_putr (sh' := [.inr (.inl (2, [.inl 52, .inl 20, .inl 1, .inr (some false), .inl 2, .inr (some false), .inl 3])), .inr (.inr (.inl [some 36, some 52, some 68, some 84, some 100, some 116])), .inl 60, .inr (.inl (0, [.inr (some false), .inr (some false), .inr (some false), .inr (some false)])), .inr (.inl (1, [.inl 5, .inl 6, .inl 7, .inl 8, .inl 9, .inl 10, .inl 11, .inl 12, .inl 13, .inl 14, .inl 15, .inl 16, .inl 17, .inl 18, .inl 19, .inr (some false), .inr (some false)])), .inl 40, .inl 40, .inl 40, .inl 40, .inl 40, .inl 96, .inl 12, .inl 12, .inl 12, .inl 12, .inl 12, .inl 5, .inl 5, .inl 5, .inl 2, .inr (.inl (1, [.inl 21, .inl 22, .inl 23, .inl 24, .inl 25, .inl 26, .inl 27, .inl 28, .inl 29, .inl 30, .inl 31, .inl 32, .inl 33, .inl 34, .inl 35, .inr (some false), .inr (some false)])), .inl 40, .inl 40, .inl 40, .inl 40, .inl 40, .inl 96, .inl 12, .inl 12, .inl 12, .inl 12, .inl 12, .inl 5, .inl 5, .inl 5, .inl 2, .inr (.inl (1, [.inl 37, .inl 38, .inl 39, .inl 40, .inl 41, .inl 42, .inl 43, .inl 44, .inl 45, .inl 46, .inl 47, .inl 48, .inl 49, .inl 50, .inl 51, .inr (some false), .inr (some false)])), .inl 40, .inl 40, .inl 40, .inl 40, .inl 40, .inl 96, .inl 12, .inl 12, .inl 12, .inl 12, .inl 12, .inl 5, .inl 5, .inl 5, .inl 2, .inr (.inl (1, [.inl 53, .inl 54, .inl 55, .inl 56, .inl 57, .inl 58, .inl 59, .inl 60, .inl 61, .inl 62, .inl 63, .inl 64, .inl 65, .inl 66, .inl 67, .inr (some false), .inr (some false)])), .inl 40, .inl 40, .inl 40, .inl 40, .inl 40, .inl 96, .inl 12, .inl 12, .inl 12, .inl 12, .inl 12, .inl 5, .inl 5, .inl 5, .inl 2, .inr (.inl (1, [.inl 69, .inl 70, .inl 71, .inl 72, .inl 73, .inl 74, .inl 75, .inl 76, .inl 77, .inl 78, .inl 79, .inl 80, .inl 81, .inl 82, .inl 83, .inr (some false), .inr (some false)])), .inl 40, .inl 40, .inl 40, .inl 40, .inl 40, .inl 96, .inl 12, .inl 12, .inl 12, .inl 12, .inl 12, .inl 5, .inl 5, .inl 5, .inl 2, .inr (.inl (1, [.inl 85, .inl 86, .inl 87, .inl 88, .inl 89, .inl 90, .inl 91, .inl 92, .inl 93, .inl 94, .inl 95, .inl 96, .inl 97, .inl 98, .inl 99, .inr (some false), .inr (some false)])), .inl 40, .inl 40, .inl 40, .inl 40, .inl 40, .inl 96, .inl 12, .inl 12, .inl 12, .inl 12, .inl 12, .inl 5, .inl 5, .inl 5, .inl 2, .inr (.inl (1, [.inl 101, .inl 102, .inl 103, .inl 104, .inl 105, .inl 106, .inl 107, .inl 108, .inl 109, .inl 110, .inl 111, .inl 112, .inl 113, .inl 114, .inl 115, .inr (some false), .inr (some false)])), .inl 40, .inl 40, .inl 40, .inl 40, .inl 40, .inl 96, .inl 12, .inl 12, .inl 12, .inl 12, .inl 12, .inl 5, .inl 5, .inl 5, .inl 2, .inr (.inl (1, [.inl 117, .inl 118, .inl 119, .inl 120, .inl 121, .inl 122, .inl 123, .inl 124, .inl 125, .inl 126, .inl 127, .inl 128, .inl 129, .inl 130, .inl 131, .inr (some false), .inr (some false)])), .inl 40, .inl 40, .inl 40, .inl 40, .inl 40, .inl 96, .inl 12, .inl 12, .inl 12, .inl 12, .inl 12, .inl 5, .inl 5, .inl 5, .inl 2]) (nm := "HintedPages$Store") (j := 52) C hq tyX2 tyX2_ok nmX2 in_X2_undo_2 0 rfl rfl 0 (by decide) k_X2_undo_10 rfl (tyX2_ok 0 (by decide)) (by decide) rfl dX2_undo_42 ?_
        refine x_aload_n C dX2_undo_45 rfl 0 rfl ?_
        refine x_get (v := .ref (q 1)) C in_X2_undo_2 0 rfl rfl 2 (by decide) k_X2_undo_19 rfl rfl dX2_undo_46 ?_
        refine x_aload_n C dX2_undo_49 rfl 0 rfl ?_
        refine x_get (v := .int (z2 0 3)) C in_X2_undo_2 0 rfl rfl 3 (by decide) k_X2_undo_23 rfl rfl dX2_undo_50 ?_
        refine x_aload_n C dX2_undo_53 rfl 1 rfl ?_
        refine x_aast (sh := [.inr (.inl (2, [.inl 52, .inl 20, .inl 1, .inr (some false), .inl 2, .inr (some false), .inl 3])), .inr (.inr (.inl [some 36, some 52, some 68, some 84, some 100, some 116])), .inl 60, .inr (.inl (0, [.inr (some false), .inr (some false), .inr (some false), .inr (some false)])), .inr (.inl (1, [.inl 5, .inl 6, .inl 7, .inl 8, .inl 9, .inl 10, .inl 11, .inl 12, .inl 13, .inl 14, .inl 15, .inl 16, .inl 17, .inl 18, .inl 19, .inr (some false), .inr (some false)])), .inl 40, .inl 40, .inl 40, .inl 40, .inl 40, .inl 96, .inl 12, .inl 12, .inl 12, .inl 12, .inl 12, .inl 5, .inl 5, .inl 5, .inl 2, .inr (.inl (1, [.inl 21, .inl 22, .inl 23, .inl 24, .inl 25, .inl 26, .inl 27, .inl 28, .inl 29, .inl 30, .inl 31, .inl 32, .inl 33, .inl 34, .inl 35, .inr (some false), .inr (some false)])), .inl 40, .inl 40, .inl 40, .inl 40, .inl 40, .inl 96, .inl 12, .inl 12, .inl 12, .inl 12, .inl 12, .inl 5, .inl 5, .inl 5, .inl 2, .inr (.inl (1, [.inl 37, .inl 38, .inl 39, .inl 40, .inl 41, .inl 42, .inl 43, .inl 44, .inl 45, .inl 46, .inl 47, .inl 48, .inl 49, .inl 50, .inl 51, .inr (some false), .inr (some false)])), .inl 40, .inl 40, .inl 40, .inl 40, .inl 40, .inl 96, .inl 12, .inl 12, .inl 12, .inl 12, .inl 12, .inl 5, .inl 5, .inl 5, .inl 2, .inr (.inl (1, [.inl 53, .inl 54, .inl 55, .inl 56, .inl 57, .inl 58, .inl 59, .inl 60, .inl 61, .inl 62, .inl 63, .inl 64, .inl 65, .inl 66, .inl 67, .inr (some false), .inr (some false)])), .inl 40, .inl 40, .inl 40, .inl 40, .inl 40, .inl 96, .inl 12, .inl 12, .inl 12, .inl 12, .inl 12, .inl 5, .inl 5, .inl 5, .inl 2, .inr (.inl (1, [.inl 69, .inl 70, .inl 71, .inl 72, .inl 73, .inl 74, .inl 75, .inl 76, .inl 77, .inl 78, .inl 79, .inl 80, .inl 81, .inl 82, .inl 83, .inr (some false), .inr (some false)])), .inl 40, .inl 40, .inl 40, .inl 40, .inl 40, .inl 96, .inl 12, .inl 12, .inl 12, .inl 12, .inl 12, .inl 5, .inl 5, .inl 5, .inl 2, .inr (.inl (1, [.inl 85, .inl 86, .inl 87, .inl 88, .inl 89, .inl 90, .inl 91, .inl 92, .inl 93, .inl 94, .inl 95, .inl 96, .inl 97, .inl 98, .inl 99, .inr (some false), .inr (some false)])), .inl 40, .inl 40, .inl 40, .inl 40, .inl 40, .inl 96, .inl 12, .inl 12, .inl 12, .inl 12, .inl 12, .inl 5, .inl 5, .inl 5, .inl 2, .inr (.inl (1, [.inl 101, .inl 102, .inl 103, .inl 104, .inl 105, .inl 106, .inl 107, .inl 108, .inl 109, .inl 110, .inl 111, .inl 112, .inl 113, .inl 114, .inl 115, .inr (some false), .inr (some false)])), .inl 40, .inl 40, .inl 40, .inl 40, .inl 40, .inl 96, .inl 12, .inl 12, .inl 12, .inl 12, .inl 12, .inl 5, .inl 5, .inl 5, .inl 2, .inr (.inl (1, [.inl 117, .inl 118, .inl 119, .inl 120, .inl 121, .inl 122, .inl 123, .inl 124, .inl 125, .inl 126, .inl 127, .inl 128, .inl 129, .inl 130, .inl 131, .inr (some false), .inr (some false)])), .inl 40, .inl 40, .inl 40, .inl 40, .inl 40, .inl 96, .inl 12, .inl 12, .inl 12, .inl 12, .inl 12, .inl 5, .inl 5, .inl 5, .inl 2]) (sh' := [.inr (.inl (2, [.inl 52, .inl 20, .inl 1, .inr (some false), .inl 2, .inr (some false), .inl 3])), .inr (.inr (.inl [some 36, some 4, some 68, some 84, some 100, some 116])), .inl 60, .inr (.inl (0, [.inr (some false), .inr (some false), .inr (some false), .inr (some false)])), .inr (.inl (1, [.inl 5, .inl 6, .inl 7, .inl 8, .inl 9, .inl 10, .inl 11, .inl 12, .inl 13, .inl 14, .inl 15, .inl 16, .inl 17, .inl 18, .inl 19, .inr (some false), .inr (some false)])), .inl 40, .inl 40, .inl 40, .inl 40, .inl 40, .inl 96, .inl 12, .inl 12, .inl 12, .inl 12, .inl 12, .inl 5, .inl 5, .inl 5, .inl 2, .inr (.inl (1, [.inl 21, .inl 22, .inl 23, .inl 24, .inl 25, .inl 26, .inl 27, .inl 28, .inl 29, .inl 30, .inl 31, .inl 32, .inl 33, .inl 34, .inl 35, .inr (some false), .inr (some false)])), .inl 40, .inl 40, .inl 40, .inl 40, .inl 40, .inl 96, .inl 12, .inl 12, .inl 12, .inl 12, .inl 12, .inl 5, .inl 5, .inl 5, .inl 2, .inr (.inl (1, [.inl 37, .inl 38, .inl 39, .inl 40, .inl 41, .inl 42, .inl 43, .inl 44, .inl 45, .inl 46, .inl 47, .inl 48, .inl 49, .inl 50, .inl 51, .inr (some false), .inr (some false)])), .inl 40, .inl 40, .inl 40, .inl 40, .inl 40, .inl 96, .inl 12, .inl 12, .inl 12, .inl 12, .inl 12, .inl 5, .inl 5, .inl 5, .inl 2, .inr (.inl (1, [.inl 53, .inl 54, .inl 55, .inl 56, .inl 57, .inl 58, .inl 59, .inl 60, .inl 61, .inl 62, .inl 63, .inl 64, .inl 65, .inl 66, .inl 67, .inr (some false), .inr (some false)])), .inl 40, .inl 40, .inl 40, .inl 40, .inl 40, .inl 96, .inl 12, .inl 12, .inl 12, .inl 12, .inl 12, .inl 5, .inl 5, .inl 5, .inl 2, .inr (.inl (1, [.inl 69, .inl 70, .inl 71, .inl 72, .inl 73, .inl 74, .inl 75, .inl 76, .inl 77, .inl 78, .inl 79, .inl 80, .inl 81, .inl 82, .inl 83, .inr (some false), .inr (some false)])), .inl 40, .inl 40, .inl 40, .inl 40, .inl 40, .inl 96, .inl 12, .inl 12, .inl 12, .inl 12, .inl 12, .inl 5, .inl 5, .inl 5, .inl 2, .inr (.inl (1, [.inl 85, .inl 86, .inl 87, .inl 88, .inl 89, .inl 90, .inl 91, .inl 92, .inl 93, .inl 94, .inl 95, .inl 96, .inl 97, .inl 98, .inl 99, .inr (some false), .inr (some false)])), .inl 40, .inl 40, .inl 40, .inl 40, .inl 40, .inl 96, .inl 12, .inl 12, .inl 12, .inl 12, .inl 12, .inl 5, .inl 5, .inl 5, .inl 2, .inr (.inl (1, [.inl 101, .inl 102, .inl 103, .inl 104, .inl 105, .inl 106, .inl 107, .inl 108, .inl 109, .inl 110, .inl 111, .inl 112, .inl 113, .inl 114, .inl 115, .inr (some false), .inr (some false)])), .inl 40, .inl 40, .inl 40, .inl 40, .inl 40, .inl 96, .inl 12, .inl 12, .inl 12, .inl 12, .inl 12, .inl 5, .inl 5, .inl 5, .inl 2, .inr (.inl (1, [.inl 117, .inl 118, .inl 119, .inl 120, .inl 121, .inl 122, .inl 123, .inl 124, .inl 125, .inl 126, .inl 127, .inl 128, .inl 129, .inl 130, .inl 131, .inr (some false), .inr (some false)])), .inl 40, .inl 40, .inl 40, .inl 40, .inl 40, .inl 96, .inl 12, .inl 12, .inl 12, .inl 12, .inl 12, .inl 5, .inl 5, .inl 5, .inl 2]) (v := (1 : Int32)) (n := 1) (j := 4) C hq 1 rfl c4 (by decide) (by unfold vp_in; decide) rfl rfl dX2_undo_54 ?_
        refine x_aload_n C dX2_undo_55 rfl 0 rfl ?_
        refine x_get (v := .int (z2 0 3)) C in_X2_undo_2 0 rfl rfl 3 (by decide) k_X2_undo_23 rfl rfl dX2_undo_56 ?_
        refine x_lv (lv' := []) [] rfl ?_
        refine x_ren (sh' := shH) [0, 1, 2, 3, 52, 53, 54, 55, 56, 57, 58, 59, 60, 61, 62, 63, 64, 65, 66, 67, 20, 21, 22, 23, 24, 25, 26, 27, 28, 29, 30, 31, 32, 33, 34, 35, 36, 37, 38, 39, 40, 41, 42, 43, 44, 45, 46, 47, 48, 49, 50, 51, 4, 5, 6, 7, 8, 9, 10, 11, 12, 13, 14, 15, 16, 17, 18, 19, 68, 69, 70, 71, 72, 73, 74, 75, 76, 77, 78, 79, 80, 81, 82, 83, 84, 85, 86, 87, 88, 89, 90, 91, 92, 93, 94, 95, 96, 97, 98, 99, 100, 101, 102, 103, 104, 105, 106, 107, 108, 109, 110, 111, 112, 113, 114, 115, 116, 117, 118, 119, 120, 121, 122, 123, 124, 125, 126, 127, 128, 129, 130, 131] ⟨by decide +kernel, rfl⟩ rfl ?_
        have hq9 : gD (gA q shH.length s.heap.size) (g_sel [0, 1, 2, 3, 52, 53, 54, 55, 56, 57, 58, 59, 60, 61, 62, 63, 64, 65, 66, 67, 20, 21, 22, 23, 24, 25, 26, 27, 28, 29, 30, 31, 32, 33, 34, 35, 36, 37, 38, 39, 40, 41, 42, 43, 44, 45, 46, 47, 48, 49, 50, 51, 4, 5, 6, 7, 8, 9, 10, 11, 12, 13, 14, 15, 16, 17, 18, 19, 68, 69, 70, 71, 72, 73, 74, 75, 76, 77, 78, 79, 80, 81, 82, 83, 84, 85, 86, 87, 88, 89, 90, 91, 92, 93, 94, 95, 96, 97, 98, 99, 100, 101, 102, 103, 104, 105, 106, 107, 108, 109, 110, 111, 112, 113, 114, 115, 116, 117, 118, 119, 120, 121, 122, 123, 124, 125, 126, 127, 128, 129, 130, 131] q) shH.length := gD_sel hq (by decide +kernel) rfl (by decide +kernel)
        exact g_pret C hq9 (fun k hk => by match k, hk with | 0, _ => exact rfl | 1, _ => exact rfl | 2, _ => exact rfl | 3, _ => exact rfl) hr dX2_undo_59 (congrArg (fun z => z.1) hf).symm (congrArg (fun z => z.2) hf).symm rfl
      · have hf := hf.trans (if_neg c4)
        have hok := g_in c4 hok
        by_cases c5 : (z2 0 3) = (2 : Int32)
        · have hf := hf.trans (if_pos c5)
          have hok := g_ip c5 hok
          refine x_aald (v := (2 : Int32)) (j := 68) C 1 rfl c5 (by unfold vp_in; decide) rfl dX2_undo_41 ?_
          refine x_putr (sh' := [.inr (.inl (2, [.inl 68, .inl 20, .inl 1, .inr (some false), .inl 2, .inr (some false), .inl 3])), .inr (.inr (.inl [some 36, some 52, some 68, some 84, some 100, some 116])), .inl 60, .inr (.inl (0, [.inr (some false), .inr (some false), .inr (some false), .inr (some false)])), .inr (.inl (1, [.inl 5, .inl 6, .inl 7, .inl 8, .inl 9, .inl 10, .inl 11, .inl 12, .inl 13, .inl 14, .inl 15, .inl 16, .inl 17, .inl 18, .inl 19, .inr (some false), .inr (some false)])), .inl 40, .inl 40, .inl 40, .inl 40, .inl 40, .inl 96, .inl 12, .inl 12, .inl 12, .inl 12, .inl 12, .inl 5, .inl 5, .inl 5, .inl 2, .inr (.inl (1, [.inl 21, .inl 22, .inl 23, .inl 24, .inl 25, .inl 26, .inl 27, .inl 28, .inl 29, .inl 30, .inl 31, .inl 32, .inl 33, .inl 34, .inl 35, .inr (some false), .inr (some false)])), .inl 40, .inl 40, .inl 40, .inl 40, .inl 40, .inl 96, .inl 12, .inl 12, .inl 12, .inl 12, .inl 12, .inl 5, .inl 5, .inl 5, .inl 2, .inr (.inl (1, [.inl 37, .inl 38, .inl 39, .inl 40, .inl 41, .inl 42, .inl 43, .inl 44, .inl 45, .inl 46, .inl 47, .inl 48, .inl 49, .inl 50, .inl 51, .inr (some false), .inr (some false)])), .inl 40, .inl 40, .inl 40, .inl 40, .inl 40, .inl 96, .inl 12, .inl 12, .inl 12, .inl 12, .inl 12, .inl 5, .inl 5, .inl 5, .inl 2, .inr (.inl (1, [.inl 53, .inl 54, .inl 55, .inl 56, .inl 57, .inl 58, .inl 59, .inl 60, .inl 61, .inl 62, .inl 63, .inl 64, .inl 65, .inl 66, .inl 67, .inr (some false), .inr (some false)])), .inl 40, .inl 40, .inl 40, .inl 40, .inl 40, .inl 96, .inl 12, .inl 12, .inl 12, .inl 12, .inl 12, .inl 5, .inl 5, .inl 5, .inl 2, .inr (.inl (1, [.inl 69, .inl 70, .inl 71, .inl 72, .inl 73, .inl 74, .inl 75, .inl 76, .inl 77, .inl 78, .inl 79, .inl 80, .inl 81, .inl 82, .inl 83, .inr (some false), .inr (some false)])), .inl 40, .inl 40, .inl 40, .inl 40, .inl 40, .inl 96, .inl 12, .inl 12, .inl 12, .inl 12, .inl 12, .inl 5, .inl 5, .inl 5, .inl 2, .inr (.inl (1, [.inl 85, .inl 86, .inl 87, .inl 88, .inl 89, .inl 90, .inl 91, .inl 92, .inl 93, .inl 94, .inl 95, .inl 96, .inl 97, .inl 98, .inl 99, .inr (some false), .inr (some false)])), .inl 40, .inl 40, .inl 40, .inl 40, .inl 40, .inl 96, .inl 12, .inl 12, .inl 12, .inl 12, .inl 12, .inl 5, .inl 5, .inl 5, .inl 2, .inr (.inl (1, [.inl 101, .inl 102, .inl 103, .inl 104, .inl 105, .inl 106, .inl 107, .inl 108, .inl 109, .inl 110, .inl 111, .inl 112, .inl 113, .inl 114, .inl 115, .inr (some false), .inr (some false)])), .inl 40, .inl 40, .inl 40, .inl 40, .inl 40, .inl 96, .inl 12, .inl 12, .inl 12, .inl 12, .inl 12, .inl 5, .inl 5, .inl 5, .inl 2, .inr (.inl (1, [.inl 117, .inl 118, .inl 119, .inl 120, .inl 121, .inl 122, .inl 123, .inl 124, .inl 125, .inl 126, .inl 127, .inl 128, .inl 129, .inl 130, .inl 131, .inr (some false), .inr (some false)])), .inl 40, .inl 40, .inl 40, .inl 40, .inl 40, .inl 96, .inl 12, .inl 12, .inl 12, .inl 12, .inl 12, .inl 5, .inl 5, .inl 5, .inl 2]) (nm := "HintedPages$Store") (j := 68) C hq tyX2 tyX2_ok nmX2 in_X2_undo_2 0 rfl rfl 0 (by decide) k_X2_undo_10 rfl (tyX2_ok 0 (by decide)) (by decide) rfl dX2_undo_42 ?_
          refine x_aload_n C dX2_undo_45 rfl 0 rfl ?_
          refine x_get (v := .ref (q 1)) C in_X2_undo_2 0 rfl rfl 2 (by decide) k_X2_undo_19 rfl rfl dX2_undo_46 ?_
          refine x_aload_n C dX2_undo_49 rfl 0 rfl ?_
          refine x_get (v := .int (z2 0 3)) C in_X2_undo_2 0 rfl rfl 3 (by decide) k_X2_undo_23 rfl rfl dX2_undo_50 ?_
          refine x_aload_n C dX2_undo_53 rfl 1 rfl ?_
          refine x_aast (sh := [.inr (.inl (2, [.inl 68, .inl 20, .inl 1, .inr (some false), .inl 2, .inr (some false), .inl 3])), .inr (.inr (.inl [some 36, some 52, some 68, some 84, some 100, some 116])), .inl 60, .inr (.inl (0, [.inr (some false), .inr (some false), .inr (some false), .inr (some false)])), .inr (.inl (1, [.inl 5, .inl 6, .inl 7, .inl 8, .inl 9, .inl 10, .inl 11, .inl 12, .inl 13, .inl 14, .inl 15, .inl 16, .inl 17, .inl 18, .inl 19, .inr (some false), .inr (some false)])), .inl 40, .inl 40, .inl 40, .inl 40, .inl 40, .inl 96, .inl 12, .inl 12, .inl 12, .inl 12, .inl 12, .inl 5, .inl 5, .inl 5, .inl 2, .inr (.inl (1, [.inl 21, .inl 22, .inl 23, .inl 24, .inl 25, .inl 26, .inl 27, .inl 28, .inl 29, .inl 30, .inl 31, .inl 32, .inl 33, .inl 34, .inl 35, .inr (some false), .inr (some false)])), .inl 40, .inl 40, .inl 40, .inl 40, .inl 40, .inl 96, .inl 12, .inl 12, .inl 12, .inl 12, .inl 12, .inl 5, .inl 5, .inl 5, .inl 2, .inr (.inl (1, [.inl 37, .inl 38, .inl 39, .inl 40, .inl 41, .inl 42, .inl 43, .inl 44, .inl 45, .inl 46, .inl 47, .inl 48, .inl 49, .inl 50, .inl 51, .inr (some false), .inr (some false)])), .inl 40, .inl 40, .inl 40, .inl 40, .inl 40, .inl 96, .inl 12, .inl 12, .inl 12, .inl 12, .inl 12, .inl 5, .inl 5, .inl 5, .inl 2, .inr (.inl (1, [.inl 53, .inl 54, .inl 55, .inl 56, .inl 57, .inl 58, .inl 59, .inl 60, .inl 61, .inl 62, .inl 63, .inl 64, .inl 65, .inl 66, .inl 67, .inr (some false), .inr (some false)])), .inl 40, .inl 40, .inl 40, .inl 40, .inl 40, .inl 96, .inl 12, .inl 12, .inl 12, .inl 12, .inl 12, .inl 5, .inl 5, .inl 5, .inl 2, .inr (.inl (1, [.inl 69, .inl 70, .inl 71, .inl 72, .inl 73, .inl 74, .inl 75, .inl 76, .inl 77, .inl 78, .inl 79, .inl 80, .inl 81, .inl 82, .inl 83, .inr (some false), .inr (some false)])), .inl 40, .inl 40, .inl 40, .inl 40, .inl 40, .inl 96, .inl 12, .inl 12, .inl 12, .inl 12, .inl 12, .inl 5, .inl 5, .inl 5, .inl 2, .inr (.inl (1, [.inl 85, .inl 86, .inl 87, .inl 88, .inl 89, .inl 90, .inl 91, .inl 92, .inl 93, .inl 94, .inl 95, .inl 96, .inl 97, .inl 98, .inl 99, .inr (some false), .inr (some false)])), .inl 40, .inl 40, .inl 40, .inl 40, .inl 40, .inl 96, .inl 12, .inl 12, .inl 12, .inl 12, .inl 12, .inl 5, .inl 5, .inl 5, .inl 2, .inr (.inl (1, [.inl 101, .inl 102, .inl 103, .inl 104, .inl 105, .inl 106, .inl 107, .inl 108, .inl 109, .inl 110, .inl 111, .inl 112, .inl 113, .inl 114, .inl 115, .inr (some false), .inr (some false)])), .inl 40, .inl 40, .inl 40, .inl 40, .inl 40, .inl 96, .inl 12, .inl 12, .inl 12, .inl 12, .inl 12, .inl 5, .inl 5, .inl 5, .inl 2, .inr (.inl (1, [.inl 117, .inl 118, .inl 119, .inl 120, .inl 121, .inl 122, .inl 123, .inl 124, .inl 125, .inl 126, .inl 127, .inl 128, .inl 129, .inl 130, .inl 131, .inr (some false), .inr (some false)])), .inl 40, .inl 40, .inl 40, .inl 40, .inl 40, .inl 96, .inl 12, .inl 12, .inl 12, .inl 12, .inl 12, .inl 5, .inl 5, .inl 5, .inl 2]) (sh' := [.inr (.inl (2, [.inl 68, .inl 20, .inl 1, .inr (some false), .inl 2, .inr (some false), .inl 3])), .inr (.inr (.inl [some 36, some 52, some 4, some 84, some 100, some 116])), .inl 60, .inr (.inl (0, [.inr (some false), .inr (some false), .inr (some false), .inr (some false)])), .inr (.inl (1, [.inl 5, .inl 6, .inl 7, .inl 8, .inl 9, .inl 10, .inl 11, .inl 12, .inl 13, .inl 14, .inl 15, .inl 16, .inl 17, .inl 18, .inl 19, .inr (some false), .inr (some false)])), .inl 40, .inl 40, .inl 40, .inl 40, .inl 40, .inl 96, .inl 12, .inl 12, .inl 12, .inl 12, .inl 12, .inl 5, .inl 5, .inl 5, .inl 2, .inr (.inl (1, [.inl 21, .inl 22, .inl 23, .inl 24, .inl 25, .inl 26, .inl 27, .inl 28, .inl 29, .inl 30, .inl 31, .inl 32, .inl 33, .inl 34, .inl 35, .inr (some false), .inr (some false)])), .inl 40, .inl 40, .inl 40, .inl 40, .inl 40, .inl 96, .inl 12, .inl 12, .inl 12, .inl 12, .inl 12, .inl 5, .inl 5, .inl 5, .inl 2, .inr (.inl (1, [.inl 37, .inl 38, .inl 39, .inl 40, .inl 41, .inl 42, .inl 43, .inl 44, .inl 45, .inl 46, .inl 47, .inl 48, .inl 49, .inl 50, .inl 51, .inr (some false), .inr (some false)])), .inl 40, .inl 40, .inl 40, .inl 40, .inl 40, .inl 96, .inl 12, .inl 12, .inl 12, .inl 12, .inl 12, .inl 5, .inl 5, .inl 5, .inl 2, .inr (.inl (1, [.inl 53, .inl 54, .inl 55, .inl 56, .inl 57, .inl 58, .inl 59, .inl 60, .inl 61, .inl 62, .inl 63, .inl 64, .inl 65, .inl 66, .inl 67, .inr (some false), .inr (some false)])), .inl 40, .inl 40, .inl 40, .inl 40, .inl 40, .inl 96, .inl 12, .inl 12, .inl 12, .inl 12, .inl 12, .inl 5, .inl 5, .inl 5, .inl 2, .inr (.inl (1, [.inl 69, .inl 70, .inl 71, .inl 72, .inl 73, .inl 74, .inl 75, .inl 76, .inl 77, .inl 78, .inl 79, .inl 80, .inl 81, .inl 82, .inl 83, .inr (some false), .inr (some false)])), .inl 40, .inl 40, .inl 40, .inl 40, .inl 40, .inl 96, .inl 12, .inl 12, .inl 12, .inl 12, .inl 12, .inl 5, .inl 5, .inl 5, .inl 2, .inr (.inl (1, [.inl 85, .inl 86, .inl 87, .inl 88, .inl 89, .inl 90, .inl 91, .inl 92, .inl 93, .inl 94, .inl 95, .inl 96, .inl 97, .inl 98, .inl 99, .inr (some false), .inr (some false)])), .inl 40, .inl 40, .inl 40, .inl 40, .inl 40, .inl 96, .inl 12, .inl 12, .inl 12, .inl 12, .inl 12, .inl 5, .inl 5, .inl 5, .inl 2, .inr (.inl (1, [.inl 101, .inl 102, .inl 103, .inl 104, .inl 105, .inl 106, .inl 107, .inl 108, .inl 109, .inl 110, .inl 111, .inl 112, .inl 113, .inl 114, .inl 115, .inr (some false), .inr (some false)])), .inl 40, .inl 40, .inl 40, .inl 40, .inl 40, .inl 96, .inl 12, .inl 12, .inl 12, .inl 12, .inl 12, .inl 5, .inl 5, .inl 5, .inl 2, .inr (.inl (1, [.inl 117, .inl 118, .inl 119, .inl 120, .inl 121, .inl 122, .inl 123, .inl 124, .inl 125, .inl 126, .inl 127, .inl 128, .inl 129, .inl 130, .inl 131, .inr (some false), .inr (some false)])), .inl 40, .inl 40, .inl 40, .inl 40, .inl 40, .inl 96, .inl 12, .inl 12, .inl 12, .inl 12, .inl 12, .inl 5, .inl 5, .inl 5, .inl 2]) (v := (2 : Int32)) (n := 2) (j := 4) C hq 1 rfl c5 (by decide) (by unfold vp_in; decide) rfl rfl dX2_undo_54 ?_
          refine x_aload_n C dX2_undo_55 rfl 0 rfl ?_
          refine x_get (v := .int (z2 0 3)) C in_X2_undo_2 0 rfl rfl 3 (by decide) k_X2_undo_23 rfl rfl dX2_undo_56 ?_
          refine x_lv (lv' := []) [] rfl ?_
          refine x_ren (sh' := shH) [0, 1, 2, 3, 68, 69, 70, 71, 72, 73, 74, 75, 76, 77, 78, 79, 80, 81, 82, 83, 20, 21, 22, 23, 24, 25, 26, 27, 28, 29, 30, 31, 32, 33, 34, 35, 36, 37, 38, 39, 40, 41, 42, 43, 44, 45, 46, 47, 48, 49, 50, 51, 52, 53, 54, 55, 56, 57, 58, 59, 60, 61, 62, 63, 64, 65, 66, 67, 4, 5, 6, 7, 8, 9, 10, 11, 12, 13, 14, 15, 16, 17, 18, 19, 84, 85, 86, 87, 88, 89, 90, 91, 92, 93, 94, 95, 96, 97, 98, 99, 100, 101, 102, 103, 104, 105, 106, 107, 108, 109, 110, 111, 112, 113, 114, 115, 116, 117, 118, 119, 120, 121, 122, 123, 124, 125, 126, 127, 128, 129, 130, 131] ⟨by decide +kernel, rfl⟩ rfl ?_
          have hq9 : gD (gA q shH.length s.heap.size) (g_sel [0, 1, 2, 3, 68, 69, 70, 71, 72, 73, 74, 75, 76, 77, 78, 79, 80, 81, 82, 83, 20, 21, 22, 23, 24, 25, 26, 27, 28, 29, 30, 31, 32, 33, 34, 35, 36, 37, 38, 39, 40, 41, 42, 43, 44, 45, 46, 47, 48, 49, 50, 51, 52, 53, 54, 55, 56, 57, 58, 59, 60, 61, 62, 63, 64, 65, 66, 67, 4, 5, 6, 7, 8, 9, 10, 11, 12, 13, 14, 15, 16, 17, 18, 19, 84, 85, 86, 87, 88, 89, 90, 91, 92, 93, 94, 95, 96, 97, 98, 99, 100, 101, 102, 103, 104, 105, 106, 107, 108, 109, 110, 111, 112, 113, 114, 115, 116, 117, 118, 119, 120, 121, 122, 123, 124, 125, 126, 127, 128, 129, 130, 131] q) shH.length := gD_sel hq (by decide +kernel) rfl (by decide +kernel)
          exact g_pret C hq9 (fun k hk => by match k, hk with | 0, _ => exact rfl | 1, _ => exact rfl | 2, _ => exact rfl | 3, _ => exact rfl) hr dX2_undo_59 (congrArg (fun z => z.1) hf).symm (congrArg (fun z => z.2) hf).symm rfl
        · have hf := hf.trans (if_neg c5)
          have hok := g_in c5 hok
          by_cases c6 : (z2 0 3) = (3 : Int32)
          · have hf := hf.trans (if_pos c6)
            have hok := g_ip c6 hok
            refine x_aald (v := (3 : Int32)) (j := 84) C 1 rfl c6 (by unfold vp_in; decide) rfl dX2_undo_41 ?_
            refine x_putr (sh' := [.inr (.inl (2, [.inl 84, .inl 20, .inl 1, .inr (some false), .inl 2, .inr (some false), .inl 3])), .inr (.inr (.inl [some 36, some 52, some 68, some 84, some 100, some 116])), .inl 60, .inr (.inl (0, [.inr (some false), .inr (some false), .inr (some false), .inr (some false)])), .inr (.inl (1, [.inl 5, .inl 6, .inl 7, .inl 8, .inl 9, .inl 10, .inl 11, .inl 12, .inl 13, .inl 14, .inl 15, .inl 16, .inl 17, .inl 18, .inl 19, .inr (some false), .inr (some false)])), .inl 40, .inl 40, .inl 40, .inl 40, .inl 40, .inl 96, .inl 12, .inl 12, .inl 12, .inl 12, .inl 12, .inl 5, .inl 5, .inl 5, .inl 2, .inr (.inl (1, [.inl 21, .inl 22, .inl 23, .inl 24, .inl 25, .inl 26, .inl 27, .inl 28, .inl 29, .inl 30, .inl 31, .inl 32, .inl 33, .inl 34, .inl 35, .inr (some false), .inr (some false)])), .inl 40, .inl 40, .inl 40, .inl 40, .inl 40, .inl 96, .inl 12, .inl 12, .inl 12, .inl 12, .inl 12, .inl 5, .inl 5, .inl 5, .inl 2, .inr (.inl (1, [.inl 37, .inl 38, .inl 39, .inl 40, .inl 41, .inl 42, .inl 43, .inl 44, .inl 45, .inl 46, .inl 47, .inl 48, .inl 49, .inl 50, .inl 51, .inr (some false), .inr (some false)])), .inl 40, .inl 40, .inl 40, .inl 40, .inl 40, .inl 96, .inl 12, .inl 12, .inl 12, .inl 12, .inl 12, .inl 5, .inl 5, .inl 5, .inl 2, .inr (.inl (1, [.inl 53, .inl 54, .inl 55, .inl 56, .inl 57, .inl 58, .inl 59, .inl 60, .inl 61, .inl 62, .inl 63, .inl 64, .inl 65, .inl 66, .inl 67, .inr (some false), .inr (some false)])), .inl 40, .inl 40, .inl 40, .inl 40, .inl 40, .inl 96, .inl 12, .inl 12, .inl 12, .inl 12, .inl 12, .inl 5, .inl 5, .inl 5, .inl 2, .inr (.inl (1, [.inl 69, .inl 70, .inl 71, .inl 72, .inl 73, .inl 74, .inl 75, .inl 76, .inl 77, .inl 78, .inl 79, .inl 80, .inl 81, .inl 82, .inl 83, .inr (some false), .inr (some false)])), .inl 40, .inl 40, .inl 40, .inl 40, .inl 40, .inl 96, .inl 12, .inl 12, .inl 12, .inl 12, .inl 12, .inl 5, .inl 5, .inl 5, .inl 2, .inr (.inl (1, [.inl 85, .inl 86, .inl 87, .inl 88, .inl 89, .inl 90, .inl 91, .inl 92, .inl 93, .inl 94, .inl 95, .inl 96, .inl 97, .inl 98, .inl 99, .inr (some false), .inr (some false)])), .inl 40, .inl 40, .inl 40, .inl 40, .inl 40, .inl 96, .inl 12, .inl 12, .inl 12, .inl 12, .inl 12, .inl 5, .inl 5, .inl 5, .inl 2, .inr (.inl (1, [.inl 101, .inl 102, .inl 103, .inl 104, .inl 105, .inl 106, .inl 107, .inl 108, .inl 109, .inl 110, .inl 111, .inl 112, .inl 113, .inl 114, .inl 115, .inr (some false), .inr (some false)])), .inl 40, .inl 40, .inl 40, .inl 40, .inl 40, .inl 96, .inl 12, .inl 12, .inl 12, .inl 12, .inl 12, .inl 5, .inl 5, .inl 5, .inl 2, .inr (.inl (1, [.inl 117, .inl 118, .inl 119, .inl 120, .inl 121, .inl 122, .inl 123, .inl 124, .inl 125, .inl 126, .inl 127, .inl 128, .inl 129, .inl 130, .inl 131, .inr (some false), .inr (some false)])), .inl 40, .inl 40, .inl 40, .inl 40, .inl 40, .inl 96, .inl 12, .inl 12, .inl 12, .inl 12, .inl 12, .inl 5, .inl 5, .inl 5, .inl 2]) (nm := "HintedPages$Store") (j := 84) C hq tyX2 tyX2_ok nmX2 in_X2_undo_2 0 rfl rfl 0 (by decide) k_X2_undo_10 rfl (tyX2_ok 0 (by decide)) (by decide) rfl dX2_undo_42 ?_
            refine x_aload_n C dX2_undo_45 rfl 0 rfl ?_
            refine x_get (v := .ref (q 1)) C in_X2_undo_2 0 rfl rfl 2 (by decide) k_X2_undo_19 rfl rfl dX2_undo_46 ?_
            refine x_aload_n C dX2_undo_49 rfl 0 rfl ?_
            refine x_get (v := .int (z2 0 3)) C in_X2_undo_2 0 rfl rfl 3 (by decide) k_X2_undo_23 rfl rfl dX2_undo_50 ?_
            refine x_aload_n C dX2_undo_53 rfl 1 rfl ?_
            refine x_aast (sh := [.inr (.inl (2, [.inl 84, .inl 20, .inl 1, .inr (some false), .inl 2, .inr (some false), .inl 3])), .inr (.inr (.inl [some 36, some 52, some 68, some 84, some 100, some 116])), .inl 60, .inr (.inl (0, [.inr (some false), .inr (some false), .inr (some false), .inr (some false)])), .inr (.inl (1, [.inl 5, .inl 6, .inl 7, .inl 8, .inl 9, .inl 10, .inl 11, .inl 12, .inl 13, .inl 14, .inl 15, .inl 16, .inl 17, .inl 18, .inl 19, .inr (some false), .inr (some false)])), .inl 40, .inl 40, .inl 40, .inl 40, .inl 40, .inl 96, .inl 12, .inl 12, .inl 12, .inl 12, .inl 12, .inl 5, .inl 5, .inl 5, .inl 2, .inr (.inl (1, [.inl 21, .inl 22, .inl 23, .inl 24, .inl 25, .inl 26, .inl 27, .inl 28, .inl 29, .inl 30, .inl 31, .inl 32, .inl 33, .inl 34, .inl 35, .inr (some false), .inr (some false)])), .inl 40, .inl 40, .inl 40, .inl 40, .inl 40, .inl 96, .inl 12, .inl 12, .inl 12, .inl 12, .inl 12, .inl 5, .inl 5, .inl 5, .inl 2, .inr (.inl (1, [.inl 37, .inl 38, .inl 39, .inl 40, .inl 41, .inl 42, .inl 43, .inl 44, .inl 45, .inl 46, .inl 47, .inl 48, .inl 49, .inl 50, .inl 51, .inr (some false), .inr (some false)])), .inl 40, .inl 40, .inl 40, .inl 40, .inl 40, .inl 96, .inl 12, .inl 12, .inl 12, .inl 12, .inl 12, .inl 5, .inl 5, .inl 5, .inl 2, .inr (.inl (1, [.inl 53, .inl 54, .inl 55, .inl 56, .inl 57, .inl 58, .inl 59, .inl 60, .inl 61, .inl 62, .inl 63, .inl 64, .inl 65, .inl 66, .inl 67, .inr (some false), .inr (some false)])), .inl 40, .inl 40, .inl 40, .inl 40, .inl 40, .inl 96, .inl 12, .inl 12, .inl 12, .inl 12, .inl 12, .inl 5, .inl 5, .inl 5, .inl 2, .inr (.inl (1, [.inl 69, .inl 70, .inl 71, .inl 72, .inl 73, .inl 74, .inl 75, .inl 76, .inl 77, .inl 78, .inl 79, .inl 80, .inl 81, .inl 82, .inl 83, .inr (some false), .inr (some false)])), .inl 40, .inl 40, .inl 40, .inl 40, .inl 40, .inl 96, .inl 12, .inl 12, .inl 12, .inl 12, .inl 12, .inl 5, .inl 5, .inl 5, .inl 2, .inr (.inl (1, [.inl 85, .inl 86, .inl 87, .inl 88, .inl 89, .inl 90, .inl 91, .inl 92, .inl 93, .inl 94, .inl 95, .inl 96, .inl 97, .inl 98, .inl 99, .inr (some false), .inr (some false)])), .inl 40, .inl 40, .inl 40, .inl 40, .inl 40, .inl 96, .inl 12, .inl 12, .inl 12, .inl 12, .inl 12, .inl 5, .inl 5, .inl 5, .inl 2, .inr (.inl (1, [.inl 101, .inl 102, .inl 103, .inl 104, .inl 105, .inl 106, .inl 107, .inl 108, .inl 109, .inl 110, .inl 111, .inl 112, .inl 113, .inl 114, .inl 115, .inr (some false), .inr (some false)])), .inl 40, .inl 40, .inl 40, .inl 40, .inl 40, .inl 96, .inl 12, .inl 12, .inl 12, .inl 12, .inl 12, .inl 5, .inl 5, .inl 5, .inl 2, .inr (.inl (1, [.inl 117, .inl 118, .inl 119, .inl 120, .inl 121, .inl 122, .inl 123, .inl 124, .inl 125, .inl 126, .inl 127, .inl 128, .inl 129, .inl 130, .inl 131, .inr (some false), .inr (some false)])), .inl 40, .inl 40, .inl 40, .inl 40, .inl 40, .inl 96, .inl 12, .inl 12, .inl 12, .inl 12, .inl 12, .inl 5, .inl 5, .inl 5, .inl 2]) (sh' := [.inr (.inl (2, [.inl 84, .inl 20, .inl 1, .inr (some false), .inl 2, .inr (some false), .inl 3])), .inr (.inr (.inl [some 36, some 52, some 68, some 4, some 100, some 116])), .inl 60, .inr (.inl (0, [.inr (some false), .inr (some false), .inr (some false), .inr (some false)])), .inr (.inl (1, [.inl 5, .inl 6, .inl 7, .inl 8, .inl 9, .inl 10, .inl 11, .inl 12, .inl 13, .inl 14, .inl 15, .inl 16, .inl 17, .inl 18, .inl 19, .inr (some false), .inr (some false)])), .inl 40, .inl 40, .inl 40, .inl 40, .inl 40, .inl 96, .inl 12, .inl 12, .inl 12, .inl 12, .inl 12, .inl 5, .inl 5, .inl 5, .inl 2, .inr (.inl (1, [.inl 21, .inl 22, .inl 23, .inl 24, .inl 25, .inl 26, .inl 27, .inl 28, .inl 29, .inl 30, .inl 31, .inl 32, .inl 33, .inl 34, .inl 35, .inr (some false), .inr (some false)])), .inl 40, .inl 40, .inl 40, .inl 40, .inl 40, .inl 96, .inl 12, .inl 12, .inl 12, .inl 12, .inl 12, .inl 5, .inl 5, .inl 5, .inl 2, .inr (.inl (1, [.inl 37, .inl 38, .inl 39, .inl 40, .inl 41, .inl 42, .inl 43, .inl 44, .inl 45, .inl 46, .inl 47, .inl 48, .inl 49, .inl 50, .inl 51, .inr (some false), .inr (some false)])), .inl 40, .inl 40, .inl 40, .inl 40, .inl 40, .inl 96, .inl 12, .inl 12, .inl 12, .inl 12, .inl 12, .inl 5, .inl 5, .inl 5, .inl 2, .inr (.inl (1, [.inl 53, .inl 54, .inl 55, .inl 56, .inl 57, .inl 58, .inl 59, .inl 60, .inl 61, .inl 62, .inl 63, .inl 64, .inl 65, .inl 66, .inl 67, .inr (some false), .inr (some false)])), .inl 40, .inl 40, .inl 40, .inl 40, .inl 40, .inl 96, .inl 12, .inl 12, .inl 12, .inl 12, .inl 12, .inl 5, .inl 5, .inl 5, .inl 2, .inr (.inl (1, [.inl 69, .inl 70, .inl 71, .inl 72, .inl 73, .inl 74, .inl 75, .inl 76, .inl 77, .inl 78, .inl 79, .inl 80, .inl 81, .inl 82, .inl 83, .inr (some false), .inr (some false)])), .inl 40, .inl 40, .inl 40, .inl 40, .inl 40, .inl 96, .inl 12, .inl 12, .inl 12, .inl 12, .inl 12, .inl 5, .inl 5, .inl 5, .inl 2, .inr (.inl (1, [.inl 85, .inl 86, .inl 87, .inl 88, .inl 89, .inl 90, .inl 91, .inl 92, .inl 93, .inl 94, .inl 95, .inl 96, .inl 97, .inl 98, .inl 99, .inr (some false), .inr (some false)])), .inl 40, .inl 40, .inl 40, .inl 40, .inl 40, .inl 96, .inl 12, .inl 12, .inl 12, .inl 12, .inl 12, .inl 5, .inl 5, .inl 5, .inl 2, .inr (.inl (1, [.inl 101, .inl 102, .inl 103, .inl 104, .inl 105, .inl 106, .inl 107, .inl 108, .inl 109, .inl 110, .inl 111, .inl 112, .inl 113, .inl 114, .inl 115, .inr (some false), .inr (some false)])), .inl 40, .inl 40, .inl 40, .inl 40, .inl 40, .inl 96, .inl 12, .inl 12, .inl 12, .inl 12, .inl 12, .inl 5, .inl 5, .inl 5, .inl 2, .inr (.inl (1, [.inl 117, .inl 118, .inl 119, .inl 120, .inl 121, .inl 122, .inl 123, .inl 124, .inl 125, .inl 126, .inl 127, .inl 128, .inl 129, .inl 130, .inl 131, .inr (some false), .inr (some false)])), .inl 40, .inl 40, .inl 40, .inl 40, .inl 40, .inl 96, .inl 12, .inl 12, .inl 12, .inl 12, .inl 12, .inl 5, .inl 5, .inl 5, .inl 2]) (v := (3 : Int32)) (n := 3) (j := 4) C hq 1 rfl c6 (by decide) (by unfold vp_in; decide) rfl rfl dX2_undo_54 ?_
            refine x_aload_n C dX2_undo_55 rfl 0 rfl ?_
            refine x_get (v := .int (z2 0 3)) C in_X2_undo_2 0 rfl rfl 3 (by decide) k_X2_undo_23 rfl rfl dX2_undo_56 ?_
            refine x_lv (lv' := []) [] rfl ?_
            refine x_ren (sh' := shH) [0, 1, 2, 3, 84, 85, 86, 87, 88, 89, 90, 91, 92, 93, 94, 95, 96, 97, 98, 99, 20, 21, 22, 23, 24, 25, 26, 27, 28, 29, 30, 31, 32, 33, 34, 35, 36, 37, 38, 39, 40, 41, 42, 43, 44, 45, 46, 47, 48, 49, 50, 51, 52, 53, 54, 55, 56, 57, 58, 59, 60, 61, 62, 63, 64, 65, 66, 67, 68, 69, 70, 71, 72, 73, 74, 75, 76, 77, 78, 79, 80, 81, 82, 83, 4, 5, 6, 7, 8, 9, 10, 11, 12, 13, 14, 15, 16, 17, 18, 19, 100, 101, 102, 103, 104, 105, 106, 107, 108, 109, 110, 111, 112, 113, 114, 115, 116, 117, 118, 119, 120, 121, 122, 123, 124, 125, 126, 127, 128, 129, 130, 131] ⟨by decide +kernel, rfl⟩ rfl ?_
            have hq9 : gD (gA q shH.length s.heap.size) (g_sel [0, 1, 2, 3, 84, 85, 86, 87, 88, 89, 90, 91, 92, 93, 94, 95, 96, 97, 98, 99, 20, 21, 22, 23, 24, 25, 26, 27, 28, 29, 30, 31, 32, 33, 34, 35, 36, 37, 38, 39, 40, 41, 42, 43, 44, 45, 46, 47, 48, 49, 50, 51, 52, 53, 54, 55, 56, 57, 58, 59, 60, 61, 62, 63, 64, 65, 66, 67, 68, 69, 70, 71, 72, 73, 74, 75, 76, 77, 78, 79, 80, 81, 82, 83, 4, 5, 6, 7, 8, 9, 10, 11, 12, 13, 14, 15, 16, 17, 18, 19, 100, 101, 102, 103, 104, 105, 106, 107, 108, 109, 110, 111, 112, 113, 114, 115, 116, 117, 118, 119, 120, 121, 122, 123, 124, 125, 126, 127, 128, 129, 130, 131] q) shH.length := gD_sel hq (by decide +kernel) rfl (by decide +kernel)
            exact g_pret C hq9 (fun k hk => by match k, hk with | 0, _ => exact rfl | 1, _ => exact rfl | 2, _ => exact rfl | 3, _ => exact rfl) hr dX2_undo_59 (congrArg (fun z => z.1) hf).symm (congrArg (fun z => z.2) hf).symm rfl
          · have hf := hf.trans (if_neg c6)
            have hok := g_in c6 hok
            by_cases c7 : (z2 0 3) = (4 : Int32)
            · have hf := hf.trans (if_pos c7)
              have hok := g_ip c7 hok
              refine x_aald (v := (4 : Int32)) (j := 100) C 1 rfl c7 (by unfold vp_in; decide) rfl dX2_undo_41 ?_
              refine x_putr (sh' := [.inr (.inl (2, [.inl 100, .inl 20, .inl 1, .inr (some false), .inl 2, .inr (some false), .inl 3])), .inr (.inr (.inl [some 36, some 52, some 68, some 84, some 100, some 116])), .inl 60, .inr (.inl (0, [.inr (some false), .inr (some false), .inr (some false), .inr (some false)])), .inr (.inl (1, [.inl 5, .inl 6, .inl 7, .inl 8, .inl 9, .inl 10, .inl 11, .inl 12, .inl 13, .inl 14, .inl 15, .inl 16, .inl 17, .inl 18, .inl 19, .inr (some false), .inr (some false)])), .inl 40, .inl 40, .inl 40, .inl 40, .inl 40, .inl 96, .inl 12, .inl 12, .inl 12, .inl 12, .inl 12, .inl 5, .inl 5, .inl 5, .inl 2, .inr (.inl (1, [.inl 21, .inl 22, .inl 23, .inl 24, .inl 25, .inl 26, .inl 27, .inl 28, .inl 29, .inl 30, .inl 31, .inl 32, .inl 33, .inl 34, .inl 35, .inr (some false), .inr (some false)])), .inl 40, .inl 40, .inl 40, .inl 40, .inl 40, .inl 96, .inl 12, .inl 12, .inl 12, .inl 12, .inl 12, .inl 5, .inl 5, .inl 5, .inl 2, .inr (.inl (1, [.inl 37, .inl 38, .inl 39, .inl 40, .inl 41, .inl 42, .inl 43, .inl 44, .inl 45, .inl 46, .inl 47, .inl 48, .inl 49, .inl 50, .inl 51, .inr (some false), .inr (some false)])), .inl 40, .inl 40, .inl 40, .inl 40, .inl 40, .inl 96, .inl 12, .inl 12, .inl 12, .inl 12, .inl 12, .inl 5, .inl 5, .inl 5, .inl 2, .inr (.inl (1, [.inl 53, .inl 54, .inl 55, .inl 56, .inl 57, .inl 58, .inl 59, .inl 60, .inl 61, .inl 62, .inl 63, .inl 64, .inl 65, .inl 66, .inl 67, .inr (some false), .inr (some false)])), .inl 40, .inl 40, .inl 40, .inl 40, .inl 40, .inl 96, .inl 12, .inl 12, .inl 12, .inl 12, .inl 12, .inl 5, .inl 5, .inl 5, .inl 2, .inr (.inl (1, [.inl 69, .inl 70, .inl 71, .inl 72, .inl 73, .inl 74, .inl 75, .inl 76, .inl 77, .inl 78, .inl 79, .inl 80, .inl 81, .inl 82, .inl 83, .inr (some false), .inr (some false)])), .inl 40, .inl 40, .inl 40, .inl 40, .inl 40, .inl 96, .inl 12, .inl 12, .inl 12, .inl 12, .inl 12, .inl 5, .inl 5, .inl 5, .inl 2, .inr (.inl (1, [.inl 85, .inl 86, .inl 87, .inl 88, .inl 89, .inl 90, .inl 91, .inl 92, .inl 93, .inl 94, .inl 95, .inl 96, .inl 97, .inl 98, .inl 99, .inr (some false), .inr (some false)])), .inl 40, .inl 40, .inl 40, .inl 40, .inl 40, .inl 96, .inl 12, .inl 12, .inl 12, .inl 12, .inl 12, .inl 5, .inl 5, .inl 5, .inl 2, .inr (.inl (1, [.inl 101, .inl 102, .inl 103, .inl 104, .inl 105, .inl 106, .inl 107, .inl 108, .inl 109, .inl 110, .inl 111, .inl 112, .inl 113, .inl 114, .inl 115, .inr (some false), .inr (some false)])), .inl 40, .inl 40, .inl 40, .inl 40, .inl 40, .inl 96, .inl 12, .inl 12, .inl 12, .inl 12, .inl 12, .inl 5, .inl 5, .inl 5, .inl 2, .inr (.inl (1, [.inl 117, .inl 118, .inl 119, .inl 120, .inl 121, .inl 122, .inl 123, .inl 124, .inl 125, .inl 126, .inl 127, .inl 128, .inl 129, .inl 130, .inl 131, .inr (some false), .inr (some false)])), .inl 40, .inl 40, .inl 40, .inl 40, .inl 40, .inl 96, .inl 12, .inl 12, .inl 12, .inl 12, .inl 12, .inl 5, .inl 5, .inl 5, .inl 2]) (nm := "HintedPages$Store") (j := 100) C hq tyX2 tyX2_ok nmX2 in_X2_undo_2 0 rfl rfl 0 (by decide) k_X2_undo_10 rfl (tyX2_ok 0 (by decide)) (by decide) rfl dX2_undo_42 ?_
              refine x_aload_n C dX2_undo_45 rfl 0 rfl ?_
              refine x_get (v := .ref (q 1)) C in_X2_undo_2 0 rfl rfl 2 (by decide) k_X2_undo_19 rfl rfl dX2_undo_46 ?_
              refine x_aload_n C dX2_undo_49 rfl 0 rfl ?_
              refine x_get (v := .int (z2 0 3)) C in_X2_undo_2 0 rfl rfl 3 (by decide) k_X2_undo_23 rfl rfl dX2_undo_50 ?_
              refine x_aload_n C dX2_undo_53 rfl 1 rfl ?_
              refine x_aast (sh := [.inr (.inl (2, [.inl 100, .inl 20, .inl 1, .inr (some false), .inl 2, .inr (some false), .inl 3])), .inr (.inr (.inl [some 36, some 52, some 68, some 84, some 100, some 116])), .inl 60, .inr (.inl (0, [.inr (some false), .inr (some false), .inr (some false), .inr (some false)])), .inr (.inl (1, [.inl 5, .inl 6, .inl 7, .inl 8, .inl 9, .inl 10, .inl 11, .inl 12, .inl 13, .inl 14, .inl 15, .inl 16, .inl 17, .inl 18, .inl 19, .inr (some false), .inr (some false)])), .inl 40, .inl 40, .inl 40, .inl 40, .inl 40, .inl 96, .inl 12, .inl 12, .inl 12, .inl 12, .inl 12, .inl 5, .inl 5, .inl 5, .inl 2, .inr (.inl (1, [.inl 21, .inl 22, .inl 23, .inl 24, .inl 25, .inl 26, .inl 27, .inl 28, .inl 29, .inl 30, .inl 31, .inl 32, .inl 33, .inl 34, .inl 35, .inr (some false), .inr (some false)])), .inl 40, .inl 40, .inl 40, .inl 40, .inl 40, .inl 96, .inl 12, .inl 12, .inl 12, .inl 12, .inl 12, .inl 5, .inl 5, .inl 5, .inl 2, .inr (.inl (1, [.inl 37, .inl 38, .inl 39, .inl 40, .inl 41, .inl 42, .inl 43, .inl 44, .inl 45, .inl 46, .inl 47, .inl 48, .inl 49, .inl 50, .inl 51, .inr (some false), .inr (some false)])), .inl 40, .inl 40, .inl 40, .inl 40, .inl 40, .inl 96, .inl 12, .inl 12, .inl 12, .inl 12, .inl 12, .inl 5, .inl 5, .inl 5, .inl 2, .inr (.inl (1, [.inl 53, .inl 54, .inl 55, .inl 56, .inl 57, .inl 58, .inl 59, .inl 60, .inl 61, .inl 62, .inl 63, .inl 64, .inl 65, .inl 66, .inl 67, .inr (some false), .inr (some false)])), .inl 40, .inl 40, .inl 40, .inl 40, .inl 40, .inl 96, .inl 12, .inl 12, .inl 12, .inl 12, .inl 12, .inl 5, .inl 5, .inl 5, .inl 2, .inr (.inl (1, [.inl 69, .inl 70, .inl 71, .inl 72, .inl 73, .inl 74, .inl 75, .inl 76, .inl 77, .inl 78, .inl 79, .inl 80, .inl 81, .inl 82, .inl 83, .inr (some false), .inr (some false)])), .inl 40, .inl 40, .inl 40, .inl 40, .inl 40, .inl 96, .inl 12, .inl 12, .inl 12, .inl 12, .inl 12, .inl 5, .inl 5, .inl 5, .inl 2, .inr (.inl (1, [.inl 85, .inl 86, .inl 87, .inl 88, .inl 89, .inl 90, .inl 91, .inl 92, .inl 93, .inl 94, .inl 95, .inl 96, .inl 97, .inl 98, .inl 99, .inr (some false), .inr (some false)])), .inl 40, .inl 40, .inl 40, .inl 40, .inl 40, .inl 96, .inl 12, .inl 12, .inl 12, .inl 12, .inl 12, .inl 5, .inl 5, .inl 5, .inl 2, .inr (.inl (1, [.inl 101, .inl 102, .inl 103, .inl 104, .inl 105, .inl 106, .inl 107, .inl 108, .inl 109, .inl 110, .inl 111, .inl 112, .inl 113, .inl 114, .inl 115, .inr (some false), .inr (some false)])), .inl 40, .inl 40, .inl 40, .inl 40, .inl 40, .inl 96, .inl 12, .inl 12, .inl 12, .inl 12, .inl 12, .inl 5, .inl 5, .inl 5, .inl 2, .inr (.inl (1, [.inl 117, .inl 118, .inl 119, .inl 120, .inl 121, .inl 122, .inl 123, .inl 124, .inl 125, .inl 126, .inl 127, .inl 128, .inl 129, .inl 130, .inl 131, .inr (some false), .inr (some false)])), .inl 40, .inl 40, .inl 40, .inl 40, .inl 40, .inl 96, .inl 12, .inl 12, .inl 12, .inl 12, .inl 12, .inl 5, .inl 5, .inl 5, .inl 2]) (sh' := [.inr (.inl (2, [.inl 100, .inl 20, .inl 1, .inr (some false), .inl 2, .inr (some false), .inl 3])), .inr (.inr (.inl [some 36, some 52, some 68, some 84, some 4, some 116])), .inl 60, .inr (.inl (0, [.inr (some false), .inr (some false), .inr (some false), .inr (some false)])), .inr (.inl (1, [.inl 5, .inl 6, .inl 7, .inl 8, .inl 9, .inl 10, .inl 11, .inl 12, .inl 13, .inl 14, .inl 15, .inl 16, .inl 17, .inl 18, .inl 19, .inr (some false), .inr (some false)])), .inl 40, .inl 40, .inl 40, .inl 40, .inl 40, .inl 96, .inl 12, .inl 12, .inl 12, .inl 12, .inl 12, .inl 5, .inl 5, .inl 5, .inl 2, .inr (.inl (1, [.inl 21, .inl 22, .inl 23, .inl 24, .inl 25, .inl 26, .inl 27, .inl 28, .inl 29, .inl 30, .inl 31, .inl 32, .inl 33, .inl 34, .inl 35, .inr (some false), .inr (some false)])), .inl 40, .inl 40, .inl 40, .inl 40, .inl 40, .inl 96, .inl 12, .inl 12, .inl 12, .inl 12, .inl 12, .inl 5, .inl 5, .inl 5, .inl 2, .inr (.inl (1, [.inl 37, .inl 38, .inl 39, .inl 40, .inl 41, .inl 42, .inl 43, .inl 44, .inl 45, .inl 46, .inl 47, .inl 48, .inl 49, .inl 50, .inl 51, .inr (some false), .inr (some false)])), .inl 40, .inl 40, .inl 40, .inl 40, .inl 40, .inl 96, .inl 12, .inl 12, .inl 12, .inl 12, .inl 12, .inl 5, .inl 5, .inl 5, .inl 2, .inr (.inl (1, [.inl 53, .inl 54, .inl 55, .inl 56, .inl 57, .inl 58, .inl 59, .inl 60, .inl 61, .inl 62, .inl 63, .inl 64, .inl 65, .inl 66, .inl 67, .inr (some false), .inr (some false)])), .inl 40, .inl 40, .inl 40, .inl 40, .inl 40, .inl 96, .inl 12, .inl 12, .inl 12, .inl 12, .inl 12, .inl 5, .inl 5, .inl 5, .inl 2, .inr (.inl (1, [.inl 69, .inl 70, .inl 71, .inl 72, .inl 73, .inl 74, .inl 75, .inl 76, .inl 77, .inl 78, .inl 79, .inl 80, .inl 81, .inl 82, .inl 83, .inr (some false), .inr (some false)])), .inl 40, .inl 40, .inl 40, .inl 40, .inl 40, .inl 96, .inl 12, .inl 12, .inl 12, .inl 12, .inl 12, .inl 5, .inl 5, .inl 5, .inl 2, .inr (.inl (1, [.inl 85, .inl 86, .inl 87, .inl 88, .inl 89, .inl 90, .inl 91, .inl 92, .inl 93, .inl 94, .inl 95, .inl 96, .inl 97, .inl 98, .inl 99, .inr (some false), .inr (some false)])), .inl 40, .inl 40, .inl 40, .inl 40, .inl 40, .inl 96, .inl 12, .inl 12, .inl 12, .inl 12, .inl 12, .inl 5, .inl 5, .inl 5, .inl 2, .inr (.inl (1, [.inl 101, .inl 102, .inl 103, .inl 104, .inl 105, .inl 106, .inl 107, .inl 108, .inl 109, .inl 110, .inl 111, .inl 112, .inl 113, .inl 114, .inl 115, .inr (some false), .inr (some false)])), .inl 40, .inl 40, .inl 40, .inl 40, .inl 40, .inl 96, .inl 12, .inl 12, .inl 12, .inl 12, .inl 12, .inl 5, .inl 5, .inl 5, .inl 2, .inr (.inl (1, [.inl 117, .inl 118, .inl 119, .inl 120, .inl 121, .inl 122, .inl 123, .inl 124, .inl 125, .inl 126, .inl 127, .inl 128, .inl 129, .inl 130, .inl 131, .inr (some false), .inr (some false)])), .inl 40, .inl 40, .inl 40, .inl 40, .inl 40, .inl 96, .inl 12, .inl 12, .inl 12, .inl 12, .inl 12, .inl 5, .inl 5, .inl 5, .inl 2]) (v := (4 : Int32)) (n := 4) (j := 4) C hq 1 rfl c7 (by decide) (by unfold vp_in; decide) rfl rfl dX2_undo_54 ?_
              refine x_aload_n C dX2_undo_55 rfl 0 rfl ?_
              refine x_get (v := .int (z2 0 3)) C in_X2_undo_2 0 rfl rfl 3 (by decide) k_X2_undo_23 rfl rfl dX2_undo_56 ?_
              refine x_lv (lv' := []) [] rfl ?_
              refine x_ren (sh' := shH) [0, 1, 2, 3, 100, 101, 102, 103, 104, 105, 106, 107, 108, 109, 110, 111, 112, 113, 114, 115, 20, 21, 22, 23, 24, 25, 26, 27, 28, 29, 30, 31, 32, 33, 34, 35, 36, 37, 38, 39, 40, 41, 42, 43, 44, 45, 46, 47, 48, 49, 50, 51, 52, 53, 54, 55, 56, 57, 58, 59, 60, 61, 62, 63, 64, 65, 66, 67, 68, 69, 70, 71, 72, 73, 74, 75, 76, 77, 78, 79, 80, 81, 82, 83, 84, 85, 86, 87, 88, 89, 90, 91, 92, 93, 94, 95, 96, 97, 98, 99, 4, 5, 6, 7, 8, 9, 10, 11, 12, 13, 14, 15, 16, 17, 18, 19, 116, 117, 118, 119, 120, 121, 122, 123, 124, 125, 126, 127, 128, 129, 130, 131] ⟨by decide +kernel, rfl⟩ rfl ?_
              have hq9 : gD (gA q shH.length s.heap.size) (g_sel [0, 1, 2, 3, 100, 101, 102, 103, 104, 105, 106, 107, 108, 109, 110, 111, 112, 113, 114, 115, 20, 21, 22, 23, 24, 25, 26, 27, 28, 29, 30, 31, 32, 33, 34, 35, 36, 37, 38, 39, 40, 41, 42, 43, 44, 45, 46, 47, 48, 49, 50, 51, 52, 53, 54, 55, 56, 57, 58, 59, 60, 61, 62, 63, 64, 65, 66, 67, 68, 69, 70, 71, 72, 73, 74, 75, 76, 77, 78, 79, 80, 81, 82, 83, 84, 85, 86, 87, 88, 89, 90, 91, 92, 93, 94, 95, 96, 97, 98, 99, 4, 5, 6, 7, 8, 9, 10, 11, 12, 13, 14, 15, 16, 17, 18, 19, 116, 117, 118, 119, 120, 121, 122, 123, 124, 125, 126, 127, 128, 129, 130, 131] q) shH.length := gD_sel hq (by decide +kernel) rfl (by decide +kernel)
              exact g_pret C hq9 (fun k hk => by match k, hk with | 0, _ => exact rfl | 1, _ => exact rfl | 2, _ => exact rfl | 3, _ => exact rfl) hr dX2_undo_59 (congrArg (fun z => z.1) hf).symm (congrArg (fun z => z.2) hf).symm rfl
            · have hf := hf.trans (if_neg c7)
              have hok := g_in c7 hok
              by_cases c8 : (z2 0 3) = (5 : Int32)
              · have hf := hf.trans (if_pos c8)
                have hok := g_ip c8 hok
                refine x_aald (v := (5 : Int32)) (j := 116) C 1 rfl c8 (by unfold vp_in; decide) rfl dX2_undo_41 ?_
                refine x_putr (sh' := [.inr (.inl (2, [.inl 116, .inl 20, .inl 1, .inr (some false), .inl 2, .inr (some false), .inl 3])), .inr (.inr (.inl [some 36, some 52, some 68, some 84, some 100, some 116])), .inl 60, .inr (.inl (0, [.inr (some false), .inr (some false), .inr (some false), .inr (some false)])), .inr (.inl (1, [.inl 5, .inl 6, .inl 7, .inl 8, .inl 9, .inl 10, .inl 11, .inl 12, .inl 13, .inl 14, .inl 15, .inl 16, .inl 17, .inl 18, .inl 19, .inr (some false), .inr (some false)])), .inl 40, .inl 40, .inl 40, .inl 40, .inl 40, .inl 96, .inl 12, .inl 12, .inl 12, .inl 12, .inl 12, .inl 5, .inl 5, .inl 5, .inl 2, .inr (.inl (1, [.inl 21, .inl 22, .inl 23, .inl 24, .inl 25, .inl 26, .inl 27, .inl 28, .inl 29, .inl 30, .inl 31, .inl 32, .inl 33, .inl 34, .inl 35, .inr (some false), .inr (some false)])), .inl 40, .inl 40, .inl 40, .inl 40, .inl 40, .inl 96, .inl 12, .inl 12, .inl 12, .inl 12, .inl 12, .inl 5, .inl 5, .inl 5, .inl 2, .inr (.inl (1, [.inl 37, .inl 38, .inl 39, .inl 40, .inl 41, .inl 42, .inl 43, .inl 44, .inl 45, .inl 46, .inl 47, .inl 48, .inl 49, .inl 50, .inl 51, .inr (some false), .inr (some false)])), .inl 40, .inl 40, .inl 40, .inl 40, .inl 40, .inl 96, .inl 12, .inl 12, .inl 12, .inl 12, .inl 12, .inl 5, .inl 5, .inl 5, .inl 2, .inr (.inl (1, [.inl 53, .inl 54, .inl 55, .inl 56, .inl 57, .inl 58, .inl 59, .inl 60, .inl 61, .inl 62, .inl 63, .inl 64, .inl 65, .inl 66, .inl 67, .inr (some false), .inr (some false)])), .inl 40, .inl 40, .inl 40, .inl 40, .inl 40, .inl 96, .inl 12, .inl 12, .inl 12, .inl 12, .inl 12, .inl 5, .inl 5, .inl 5, .inl 2, .inr (.inl (1, [.inl 69, .inl 70, .inl 71, .inl 72, .inl 73, .inl 74, .inl 75, .inl 76, .inl 77, .inl 78, .inl 79, .inl 80, .inl 81, .inl 82, .inl 83, .inr (some false), .inr (some false)])), .inl 40, .inl 40, .inl 40, .inl 40, .inl 40, .inl 96, .inl 12, .inl 12, .inl 12, .inl 12, .inl 12, .inl 5, .inl 5, .inl 5, .inl 2, .inr (.inl (1, [.inl 85, .inl 86, .inl 87, .inl 88, .inl 89, .inl 90, .inl 91, .inl 92, .inl 93, .inl 94, .inl 95, .inl 96, .inl 97, .inl 98, .inl 99, .inr (some false), .inr (some false)])), .inl 40, .inl 40, .inl 40, .inl 40, .inl 40, .inl 96, .inl 12, .inl 12, .inl 12, .inl 12, .inl 12, .inl 5, .inl 5, .inl 5, .inl 2, .inr (.inl (1, [.inl 101, .inl 102, .inl 103, .inl 104, .inl 105, .inl 106, .inl 107, .inl 108, .inl 109, .inl 110, .inl 111, .inl 112, .inl 113, .inl 114, .inl 115, .inr (some false), .inr (some false)])), .inl 40, .inl 40, .inl 40, .inl 40, .inl 40, .inl 96, .inl 12, .inl 12, .inl 12, .inl 12, .inl 12, .inl 5, .inl 5, .inl 5, .inl 2, .inr (.inl (1, [.inl 117, .inl 118, .inl 119, .inl 120, .inl 121, .inl 122, .inl 123, .inl 124, .inl 125, .inl 126, .inl 127, .inl 128, .inl 129, .inl 130, .inl 131, .inr (some false), .inr (some false)])), .inl 40, .inl 40, .inl 40, .inl 40, .inl 40, .inl 96, .inl 12, .inl 12, .inl 12, .inl 12, .inl 12, .inl 5, .inl 5, .inl 5, .inl 2]) (nm := "HintedPages$Store") (j := 116) C hq tyX2 tyX2_ok nmX2 in_X2_undo_2 0 rfl rfl 0 (by decide) k_X2_undo_10 rfl (tyX2_ok 0 (by decide)) (by decide) rfl dX2_undo_42 ?_
                refine x_aload_n C dX2_undo_45 rfl 0 rfl ?_
                refine x_get (v := .ref (q 1)) C in_X2_undo_2 0 rfl rfl 2 (by decide) k_X2_undo_19 rfl rfl dX2_undo_46 ?_
                refine x_aload_n C dX2_undo_49 rfl 0 rfl ?_
                refine x_get (v := .int (z2 0 3)) C in_X2_undo_2 0 rfl rfl 3 (by decide) k_X2_undo_23 rfl rfl dX2_undo_50 ?_
                refine x_aload_n C dX2_undo_53 rfl 1 rfl ?_
                refine x_aast (sh := [.inr (.inl (2, [.inl 116, .inl 20, .inl 1, .inr (some false), .inl 2, .inr (some false), .inl 3])), .inr (.inr (.inl [some 36, some 52, some 68, some 84, some 100, some 116])), .inl 60, .inr (.inl (0, [.inr (some false), .inr (some false), .inr (some false), .inr (some false)])), .inr (.inl (1, [.inl 5, .inl 6, .inl 7, .inl 8, .inl 9, .inl 10, .inl 11, .inl 12, .inl 13, .inl 14, .inl 15, .inl 16, .inl 17, .inl 18, .inl 19, .inr (some false), .inr (some false)])), .inl 40, .inl 40, .inl 40, .inl 40, .inl 40, .inl 96, .inl 12, .inl 12, .inl 12, .inl 12, .inl 12, .inl 5, .inl 5, .inl 5, .inl 2, .inr (.inl (1, [.inl 21, .inl 22, .inl 23, .inl 24, .inl 25, .inl 26, .inl 27, .inl 28, .inl 29, .inl 30, .inl 31, .inl 32, .inl 33, .inl 34, .inl 35, .inr (some false), .inr (some false)])), .inl 40, .inl 40, .inl 40, .inl 40, .inl 40, .inl 96, .inl 12, .inl 12, .inl 12, .inl 12, .inl 12, .inl 5, .inl 5, .inl 5, .inl 2, .inr (.inl (1, [.inl 37, .inl 38, .inl 39, .inl 40, .inl 41, .inl 42, .inl 43, .inl 44, .inl 45, .inl 46, .inl 47, .inl 48, .inl 49, .inl 50, .inl 51, .inr (some false), .inr (some false)])), .inl 40, .inl 40, .inl 40, .inl 40, .inl 40, .inl 96, .inl 12, .inl 12, .inl 12, .inl 12, .inl 12, .inl 5, .inl 5, .inl 5, .inl 2, .inr (.inl (1, [.inl 53, .inl 54, .inl 55, .inl 56, .inl 57, .inl 58, .inl 59, .inl 60, .inl 61, .inl 62, .inl 63, .inl 64, .inl 65, .inl 66, .inl 67, .inr (some false), .inr (some false)])), .inl 40, .inl 40, .inl 40, .inl 40, .inl 40, .inl 96, .inl 12, .inl 12, .inl 12, .inl 12, .inl 12, .inl 5, .inl 5, .inl 5, .inl 2, .inr (.inl (1, [.inl 69, .inl 70, .inl 71, .inl 72, .inl 73, .inl 74, .inl 75, .inl 76, .inl 77, .inl 78, .inl 79, .inl 80, .inl 81, .inl 82, .inl 83, .inr (some false), .inr (some false)])), .inl 40, .inl 40, .inl 40, .inl 40, .inl 40, .inl 96, .inl 12, .inl 12, .inl 12, .inl 12, .inl 12, .inl 5, .inl 5, .inl 5, .inl 2, .inr (.inl (1, [.inl 85, .inl 86, .inl 87, .inl 88, .inl 89, .inl 90, .inl 91, .inl 92, .inl 93, .inl 94, .inl 95, .inl 96, .inl 97, .inl 98, .inl 99, .inr (some false), .inr (some false)])), .inl 40, .inl 40, .inl 40, .inl 40, .inl 40, .inl 96, .inl 12, .inl 12, .inl 12, .inl 12, .inl 12, .inl 5, .inl 5, .inl 5, .inl 2, .inr (.inl (1, [.inl 101, .inl 102, .inl 103, .inl 104, .inl 105, .inl 106, .inl 107, .inl 108, .inl 109, .inl 110, .inl 111, .inl 112, .inl 113, .inl 114, .inl 115, .inr (some false), .inr (some false)])), .inl 40, .inl 40, .inl 40, .inl 40, .inl 40, .inl 96, .inl 12, .inl 12, .inl 12, .inl 12, .inl 12, .inl 5, .inl 5, .inl 5, .inl 2, .inr (.inl (1, [.inl 117, .inl 118, .inl 119, .inl 120, .inl 121, .inl 122, .inl 123, .inl 124, .inl 125, .inl 126, .inl 127, .inl 128, .inl 129, .inl 130, .inl 131, .inr (some false), .inr (some false)])), .inl 40, .inl 40, .inl 40, .inl 40, .inl 40, .inl 96, .inl 12, .inl 12, .inl 12, .inl 12, .inl 12, .inl 5, .inl 5, .inl 5, .inl 2]) (sh' := [.inr (.inl (2, [.inl 116, .inl 20, .inl 1, .inr (some false), .inl 2, .inr (some false), .inl 3])), .inr (.inr (.inl [some 36, some 52, some 68, some 84, some 100, some 4])), .inl 60, .inr (.inl (0, [.inr (some false), .inr (some false), .inr (some false), .inr (some false)])), .inr (.inl (1, [.inl 5, .inl 6, .inl 7, .inl 8, .inl 9, .inl 10, .inl 11, .inl 12, .inl 13, .inl 14, .inl 15, .inl 16, .inl 17, .inl 18, .inl 19, .inr (some false), .inr (some false)])), .inl 40, .inl 40, .inl 40, .inl 40, .inl 40, .inl 96, .inl 12, .inl 12, .inl 12, .inl 12, .inl 12, .inl 5, .inl 5, .inl 5, .inl 2, .inr (.inl (1, [.inl 21, .inl 22, .inl 23, .inl 24, .inl 25, .inl 26, .inl 27, .inl 28, .inl 29, .inl 30, .inl 31, .inl 32, .inl 33, .inl 34, .inl 35, .inr (some false), .inr (some false)])), .inl 40, .inl 40, .inl 40, .inl 40, .inl 40, .inl 96, .inl 12, .inl 12, .inl 12, .inl 12, .inl 12, .inl 5, .inl 5, .inl 5, .inl 2, .inr (.inl (1, [.inl 37, .inl 38, .inl 39, .inl 40, .inl 41, .inl 42, .inl 43, .inl 44, .inl 45, .inl 46, .inl 47, .inl 48, .inl 49, .inl 50, .inl 51, .inr (some false), .inr (some false)])), .inl 40, .inl 40, .inl 40, .inl 40, .inl 40, .inl 96, .inl 12, .inl 12, .inl 12, .inl 12, .inl 12, .inl 5, .inl 5, .inl 5, .inl 2, .inr (.inl (1, [.inl 53, .inl 54, .inl 55, .inl 56, .inl 57, .inl 58, .inl 59, .inl 60, .inl 61, .inl 62, .inl 63, .inl 64, .inl 65, .inl 66, .inl 67, .inr (some false), .inr (some false)])), .inl 40, .inl 40, .inl 40, .inl 40, .inl 40, .inl 96, .inl 12, .inl 12, .inl 12, .inl 12, .inl 12, .inl 5, .inl 5, .inl 5, .inl 2, .inr (.inl (1, [.inl 69, .inl 70, .inl 71, .inl 72, .inl 73, .inl 74, .inl 75, .inl 76, .inl 77, .inl 78, .inl 79, .inl 80, .inl 81, .inl 82, .inl 83, .inr (some false), .inr (some false)])), .inl 40, .inl 40, .inl 40, .inl 40, .inl 40, .inl 96, .inl 12, .inl 12, .inl 12, .inl 12, .inl 12, .inl 5, .inl 5, .inl 5, .inl 2, .inr (.inl (1, [.inl 85, .inl 86, .inl 87, .inl 88, .inl 89, .inl 90, .inl 91, .inl 92, .inl 93, .inl 94, .inl 95, .inl 96, .inl 97, .inl 98, .inl 99, .inr (some false), .inr (some false)])), .inl 40, .inl 40, .inl 40, .inl 40, .inl 40, .inl 96, .inl 12, .inl 12, .inl 12, .inl 12, .inl 12, .inl 5, .inl 5, .inl 5, .inl 2, .inr (.inl (1, [.inl 101, .inl 102, .inl 103, .inl 104, .inl 105, .inl 106, .inl 107, .inl 108, .inl 109, .inl 110, .inl 111, .inl 112, .inl 113, .inl 114, .inl 115, .inr (some false), .inr (some false)])), .inl 40, .inl 40, .inl 40, .inl 40, .inl 40, .inl 96, .inl 12, .inl 12, .inl 12, .inl 12, .inl 12, .inl 5, .inl 5, .inl 5, .inl 2, .inr (.inl (1, [.inl 117, .inl 118, .inl 119, .inl 120, .inl 121, .inl 122, .inl 123, .inl 124, .inl 125, .inl 126, .inl 127, .inl 128, .inl 129, .inl 130, .inl 131, .inr (some false), .inr (some false)])), .inl 40, .inl 40, .inl 40, .inl 40, .inl 40, .inl 96, .inl 12, .inl 12, .inl 12, .inl 12, .inl 12, .inl 5, .inl 5, .inl 5, .inl 2]) (v := (5 : Int32)) (n := 5) (j := 4) C hq 1 rfl c8 (by decide) (by unfold vp_in; decide) rfl rfl dX2_undo_54 ?_
                refine x_aload_n C dX2_undo_55 rfl 0 rfl ?_
                refine x_get (v := .int (z2 0 3)) C in_X2_undo_2 0 rfl rfl 3 (by decide) k_X2_undo_23 rfl rfl dX2_undo_56 ?_
                refine x_lv (lv' := []) [] rfl ?_
                refine x_ren (sh' := shH) [0, 1, 2, 3, 116, 117, 118, 119, 120, 121, 122, 123, 124, 125, 126, 127, 128, 129, 130, 131, 20, 21, 22, 23, 24, 25, 26, 27, 28, 29, 30, 31, 32, 33, 34, 35, 36, 37, 38, 39, 40, 41, 42, 43, 44, 45, 46, 47, 48, 49, 50, 51, 52, 53, 54, 55, 56, 57, 58, 59, 60, 61, 62, 63, 64, 65, 66, 67, 68, 69, 70, 71, 72, 73, 74, 75, 76, 77, 78, 79, 80, 81, 82, 83, 84, 85, 86, 87, 88, 89, 90, 91, 92, 93, 94, 95, 96, 97, 98, 99, 100, 101, 102, 103, 104, 105, 106, 107, 108, 109, 110, 111, 112, 113, 114, 115, 4, 5, 6, 7, 8, 9, 10, 11, 12, 13, 14, 15, 16, 17, 18, 19] ⟨by decide +kernel, rfl⟩ rfl ?_
                have hq9 : gD (gA q shH.length s.heap.size) (g_sel [0, 1, 2, 3, 116, 117, 118, 119, 120, 121, 122, 123, 124, 125, 126, 127, 128, 129, 130, 131, 20, 21, 22, 23, 24, 25, 26, 27, 28, 29, 30, 31, 32, 33, 34, 35, 36, 37, 38, 39, 40, 41, 42, 43, 44, 45, 46, 47, 48, 49, 50, 51, 52, 53, 54, 55, 56, 57, 58, 59, 60, 61, 62, 63, 64, 65, 66, 67, 68, 69, 70, 71, 72, 73, 74, 75, 76, 77, 78, 79, 80, 81, 82, 83, 84, 85, 86, 87, 88, 89, 90, 91, 92, 93, 94, 95, 96, 97, 98, 99, 100, 101, 102, 103, 104, 105, 106, 107, 108, 109, 110, 111, 112, 113, 114, 115, 4, 5, 6, 7, 8, 9, 10, 11, 12, 13, 14, 15, 16, 17, 18, 19] q) shH.length := gD_sel hq (by decide +kernel) rfl (by decide +kernel)
                exact g_pret C hq9 (fun k hk => by match k, hk with | 0, _ => exact rfl | 1, _ => exact rfl | 2, _ => exact rfl | 3, _ => exact rfl) hr dX2_undo_59 (congrArg (fun z => z.1) hf).symm (congrArg (fun z => z.2) hf).symm rfl
              · have hf := hf.trans (if_neg c8)
                have hok := g_in c8 hok
                exact False.elim hok
  · have hf := hf.trans (if_neg c1)
    have hok := g_in c1 hok
    exact False.elim hok
set_option maxRecDepth 20000 in
theorem in_X2_write_2 : ∀ w ∈ u_ws RX2 TX2 7, w ∈ wsX2_write := by decide +kernel
set_option maxRecDepth 20000 in
theorem k_X2_write_10 : Cond.fieldLink RX2 10 "HintedPages" "store" "LHintedPages$Store;" ∈ wsX2_write := by decide +kernel
abbrev rm_h_write : Room := { frames := 5, cells := 0, slots := 0, locals := 118 }
noncomputable def f_h_write (m : gM) (a1 : Int32) (a2 : Int32) : Int32 × gM := (if (f_h_isIn a1 (40 : Int32)) = 0 then ((0 : Int32), m) else (if (f_h_isIn a2 (4 : Int32)) = 0 then ((0 : Int32), m) else g_let (f_h_saveState m) (fun z6 : gM => g_let (f_s_writePages (g_sel [4, 5, 6, 7, 8, 9, 10, 11, 12, 13, 14, 15, 16, 17, 18, 19] z6) a1 a1 a2) (fun z8 : Int32 × gM => g_let (g_mrg [4, 5, 6, 7, 8, 9, 10, 11, 12, 13, 14, 15, 16, 17, 18, 19] z6 z8.2) (fun z9 : gM => (z8.1, z9))))))
noncomputable def o_h_write (m : gM) (a1 : Int32) (a2 : Int32) : Prop := (o_h_isIn a1 (40 : Int32)) ∧ ((if (f_h_isIn a1 (40 : Int32)) = 0 then False else (o_h_isIn a2 (4 : Int32)) ∧ ((if (f_h_isIn a2 (4 : Int32)) = 0 then False else (o_h_saveState m) ∧ (g_let (f_h_saveState m) (fun z6 : gM => (o_s_writePages (g_sel [4, 5, 6, 7, 8, 9, 10, 11, 12, 13, 14, 15, 16, 17, 18, 19] z6) a1 a1 a2) ∧ (g_let (f_s_writePages (g_sel [4, 5, 6, 7, 8, 9, 10, 11, 12, 13, 14, 15, 16, 17, 18, 19] z6) a1 a1 a2) (fun z8 : Int32 × gM => g_let (g_mrg [4, 5, 6, 7, 8, 9, 10, 11, 12, 13, 14, 15, 16, 17, 18, 19] z6 z8.2) (fun z9 : gM => True)))))))))
set_option maxRecDepth 100000 in
set_option maxHeartbeats 4000000 in
theorem c_h_write (l : Launch) (G : gG) (q : Nat → Nat) (m : gM) (h : gN) (a1 : Int32) (a2 : Int32) (hok : o_h_write m a1 a2) : gMpi l yX2_write wsX2_write rm_h_write G shH q 4 m h [.ref (q 0), .int a1, .int a2] ((f_h_write m a1 a2).2) h ((f_h_write m a1 a2).1) := by
  intro sz
  refine g_met (cc := cX2_write) (maxL := 3) (ret := (some .int)) (own := RX2) (Qc := fun sz => gQpi G shH q 4 ((f_h_write m a1 a2).2) h sz ((f_h_write m a1 a2).1)) (by decide) rfl rfl (Nat.le_of_ble_eq_true rfl) (fun p e s m9 below meth c C hq hr => ?_)
  refine x_lv (lv' := [(0, .ref (q 0)), (1, .int a1), (2, .int a2)]) [0, 1, 2] rfl ?_
  have hf := f_h_write.eq_1 m a1 a2
  have hok := Eq.mp (o_h_write.eq_1 m a1 a2) hok
  refine x_iload_n C dX2_write_0 rfl 1 rfl ?_
  refine x_bipush (v := (40 : Int32)) C dX2_write_1 (by decide) ?_
  have s1 := And.left hok
  have hok := And.right hok
  refine x_callSi (n := 2) C hq (gFr_pure gs_H_0_) (c_h_isIn l G (g_sel [] q) (g_sel [] m) (g_sel [] h) a1 (40 : Int32) s1) (va_cwS 2 C.2.2.2.2.2.1 gX2_write_X2_isIn rfl rfl rfl (by decide +kernel) ⟨Nat.le_of_ble_eq_true rfl, Nat.le_of_ble_eq_true rfl⟩) rfl rfl (Nat.le_of_ble_eq_true rfl) dX2_write_3 (Nat.zero_le _) (Nat.zero_le _) ?_
  refine x_if_ne (tgt := 19) C dX2_write_6 (by decide) (fun c2 => ?_) (fun c2 => ?_)
  · have hf := hf.trans (if_neg c2)
    have hok := g_in c2 hok
    refine x_iload_n C dX2_write_19 rfl 2 rfl ?_
    refine x_iconst (v := (4 : Int32)) C dX2_write_20 (by decide) ?_
    have s3 := And.left hok
    have hok := And.right hok
    refine x_callSi (n := 2) C hq (gFr_pure gs_H_0_) (c_h_isIn l G (g_sel [] q) (g_sel [] m) (g_sel [] h) a2 (4 : Int32) s3) (va_cwS 2 C.2.2.2.2.2.1 gX2_write_X2_isIn rfl rfl rfl (by decide +kernel) ⟨Nat.le_of_ble_eq_true rfl, Nat.le_of_ble_eq_true rfl⟩) rfl rfl (Nat.le_of_ble_eq_true rfl) dX2_write_21 (Nat.zero_le _) (Nat.zero_le _) ?_
    refine x_if_ne (tgt := 37) C dX2_write_24 (by decide) (fun c4 => ?_) (fun c4 => ?_)
    · have hf := hf.trans (if_neg c4)
      have hok := g_in c4 hok
      refine x_aload_n C dX2_write_37 rfl 0 rfl ?_
      have s5 := And.left hok
      have hok := And.right hok
      obtain ⟨z6, hz6⟩ : ∃ y9 : gM, y9 = f_h_saveState m := ⟨_, rfl⟩
      have hf := hf.trans (g_let_eq hz6)
      have hok := g_let_p hz6 hok
      have hmz6 : gMpv l yX2_saveState wsX2_saveState rm_h_saveState G shH q 4 m h [.ref (q 0)] z6 h := by rw [hz6]; exact c_h_saveState l G q m h s5
      refine x_callVpv (n := 0) (n4 := 4) C hq hmz6 (cwV 0 C.2.2.2.2.2.1 gX2_write_X2_saveState rfl rfl rfl (by decide +kernel) ⟨Nat.le_of_ble_eq_true rfl, Nat.le_of_ble_eq_true rfl⟩) rfl rfl rfl rfl (Nat.le_of_ble_eq_true rfl) dX2_write_38 (Nat.zero_le _) (Nat.zero_le _) (fun qz6 h4qz6 hqqz6 => ?_)
      refine x_lve (lv' := [(0, .ref (qz6 0)), (1, .int a1), (2, .int a2)]) (by rw [h4qz6 0 (by decide)]) ?_
      refine x_aload_n C dX2_write_41 rfl 0 rfl ?_
      refine x_get (v := .ref (qz6 4)) C in_X2_write_2 0 rfl rfl 0 (by decide) k_X2_write_10 rfl rfl dX2_write_42 ?_
      refine x_iload_n C dX2_write_45 rfl 1 rfl ?_
      refine x_iload_n C dX2_write_46 rfl 1 rfl ?_
      refine x_iload_n C dX2_write_47 rfl 2 rfl ?_
      have s7 := And.left hok
      have hok := And.right hok
      obtain ⟨z8, hz8⟩ : ∃ y9 : Int32 × gM, y9 = f_s_writePages (g_sel [4, 5, 6, 7, 8, 9, 10, 11, 12, 13, 14, 15, 16, 17, 18, 19] z6) a1 a1 a2 := ⟨_, rfl⟩
      have hf := hf.trans (g_let_eq hz8)
      have hok := g_let_p hz8 hok
      have hmz8 : gMi l yX1_writePages wsX1_writePages rm_s_writePages G shS (g_sel [4, 5, 6, 7, 8, 9, 10, 11, 12, 13, 14, 15, 16, 17, 18, 19] qz6) (g_sel [4, 5, 6, 7, 8, 9, 10, 11, 12, 13, 14, 15, 16, 17, 18, 19] z6) (g_sel [4, 5, 6, 7, 8, 9, 10, 11, 12, 13, 14, 15, 16, 17, 18, 19] h) [.ref ((g_sel [4, 5, 6, 7, 8, 9, 10, 11, 12, 13, 14, 15, 16, 17, 18, 19] qz6) 0), .int a1, .int a1, .int a2] z8.2 (g_sel [4, 5, 6, 7, 8, 9, 10, 11, 12, 13, 14, 15, 16, 17, 18, 19] h) z8.1 := by rw [hz8]; exact c_s_writePages l G (g_sel [4, 5, 6, 7, 8, 9, 10, 11, 12, 13, 14, 15, 16, 17, 18, 19] qz6) (g_sel [4, 5, 6, 7, 8, 9, 10, 11, 12, 13, 14, 15, 16, 17, 18, 19] z6) (g_sel [4, 5, 6, 7, 8, 9, 10, 11, 12, 13, 14, 15, 16, 17, 18, 19] h) a1 a1 a2 s7
      refine x_callVi (n := 3) C hqqz6 (gFr_sub gs_H_S_4_5) (hmz8) (cwV 3 C.2.2.2.2.2.1 gX2_write_X1_writePages rfl rfl rfl (by decide +kernel) ⟨Nat.le_of_ble_eq_true rfl, Nat.le_of_ble_eq_true rfl⟩) rfl rfl rfl rfl (Nat.le_of_ble_eq_true rfl) dX2_write_48 (Nat.zero_le _) (Nat.zero_le _) ?_
      obtain ⟨z9, hz9⟩ : ∃ y9 : gM, y9 = g_mrg [4, 5, 6, 7, 8, 9, 10, 11, 12, 13, 14, 15, 16, 17, 18, 19] z6 z8.2 := ⟨_, rfl⟩
      have hf := hf.trans (g_let_eq hz9)
      have hok := g_let_p hz9 hok
      refine x_mu hz9 (g_mrg_id gs_H_S_4_5.1) ?_
      exact g_pret C hqqz6 h4qz6 hr dX2_write_51 (congrArg (fun z => z.1) hf).symm (congrArg (fun z => z.2) hf).symm rfl
    · have hf := hf.trans (if_pos c4)
      have hok := g_ip c4 hok
      exact False.elim hok
  · have hf := hf.trans (if_pos c2)
    have hok := g_ip c2 hok
    exact False.elim hok
set_option maxRecDepth 20000 in
theorem in_X2_writeRow_2 : ∀ w ∈ u_ws RX2 TX2 7, w ∈ wsX2_writeRow := by decide +kernel
set_option maxRecDepth 20000 in
theorem k_X2_writeRow_10 : Cond.fieldLink RX2 10 "HintedPages" "store" "LHintedPages$Store;" ∈ wsX2_writeRow := by decide +kernel
abbrev rm_h_writeRow : Room := { frames := 5, cells := 0, slots := 0, locals := 118 }
noncomputable def f_h_writeRow (m : gM) (a1 : Int32) (a2 : Int32) (a3 : Int32) : Int32 × gM := (if (f_h_isIn a1 (40 : Int32)) = 0 then ((0 : Int32), m) else (if a2 < (1 : Int32) then ((0 : Int32), m) else (if a2 ≤ ((40 : Int32) - a1) then (if (f_h_isIn a3 (4 : Int32)) = 0 then ((0 : Int32), m) else g_let (f_h_saveState m) (fun z8 : gM => g_let (f_s_writePages (g_sel [4, 5, 6, 7, 8, 9, 10, 11, 12, 13, 14, 15, 16, 17, 18, 19] z8) a1 ((a1 + a2) - (1 : Int32)) a3) (fun z10 : Int32 × gM => g_let (g_mrg [4, 5, 6, 7, 8, 9, 10, 11, 12, 13, 14, 15, 16, 17, 18, 19] z8 z10.2) (fun z11 : gM => (z10.1, z11))))) else ((0 : Int32), m))))
noncomputable def o_h_writeRow (m : gM) (a1 : Int32) (a2 : Int32) (a3 : Int32) : Prop := (o_h_isIn a1 (40 : Int32)) ∧ ((if (f_h_isIn a1 (40 : Int32)) = 0 then False else (if a2 < (1 : Int32) then False else (if a2 ≤ ((40 : Int32) - a1) then (o_h_isIn a3 (4 : Int32)) ∧ ((if (f_h_isIn a3 (4 : Int32)) = 0 then False else (o_h_saveState m) ∧ (g_let (f_h_saveState m) (fun z8 : gM => (o_s_writePages (g_sel [4, 5, 6, 7, 8, 9, 10, 11, 12, 13, 14, 15, 16, 17, 18, 19] z8) a1 ((a1 + a2) - (1 : Int32)) a3) ∧ (g_let (f_s_writePages (g_sel [4, 5, 6, 7, 8, 9, 10, 11, 12, 13, 14, 15, 16, 17, 18, 19] z8) a1 ((a1 + a2) - (1 : Int32)) a3) (fun z10 : Int32 × gM => g_let (g_mrg [4, 5, 6, 7, 8, 9, 10, 11, 12, 13, 14, 15, 16, 17, 18, 19] z8 z10.2) (fun z11 : gM => True))))))) else False))))
set_option maxRecDepth 100000 in
set_option maxHeartbeats 4000000 in
theorem c_h_writeRow (l : Launch) (G : gG) (q : Nat → Nat) (m : gM) (h : gN) (a1 : Int32) (a2 : Int32) (a3 : Int32) (hok : o_h_writeRow m a1 a2 a3) : gMpi l yX2_writeRow wsX2_writeRow rm_h_writeRow G shH q 4 m h [.ref (q 0), .int a1, .int a2, .int a3] ((f_h_writeRow m a1 a2 a3).2) h ((f_h_writeRow m a1 a2 a3).1) := by
  intro sz
  refine g_met (cc := cX2_writeRow) (maxL := 4) (ret := (some .int)) (own := RX2) (Qc := fun sz => gQpi G shH q 4 ((f_h_writeRow m a1 a2 a3).2) h sz ((f_h_writeRow m a1 a2 a3).1)) (by decide) rfl rfl (Nat.le_of_ble_eq_true rfl) (fun p e s m9 below meth c C hq hr => ?_)
  refine x_lv (lv' := [(0, .ref (q 0)), (1, .int a1), (2, .int a2), (3, .int a3)]) [0, 1, 2, 3] rfl ?_
  have hf := f_h_writeRow.eq_1 m a1 a2 a3
  have hok := Eq.mp (o_h_writeRow.eq_1 m a1 a2 a3) hok
  refine x_iload_n C dX2_writeRow_0 rfl 1 rfl ?_
  refine x_bipush (v := (40 : Int32)) C dX2_writeRow_1 (by decide) ?_
  have s1 := And.left hok
  have hok := And.right hok
  refine x_callSi (n := 2) C hq (gFr_pure gs_H_0_) (c_h_isIn l G (g_sel [] q) (g_sel [] m) (g_sel [] h) a1 (40 : Int32) s1) (va_cwS 2 C.2.2.2.2.2.1 gX2_writeRow_X2_isIn rfl rfl rfl (by decide +kernel) ⟨Nat.le_of_ble_eq_true rfl, Nat.le_of_ble_eq_true rfl⟩) rfl rfl (Nat.le_of_ble_eq_true rfl) dX2_writeRow_3 (Nat.zero_le _) (Nat.zero_le _) ?_
  refine x_if_ne (tgt := 19) C dX2_writeRow_6 (by decide) (fun c2 => ?_) (fun c2 => ?_)
  · have hf := hf.trans (if_neg c2)
    have hok := g_in c2 hok
    refine x_iload_n C dX2_writeRow_19 rfl 2 rfl ?_
    refine x_iconst (v := (1 : Int32)) C dX2_writeRow_20 (by decide) ?_
    refine x_icmp_lt (tgt := 32) C dX2_writeRow_21 (by decide) (fun c3 => ?_) (fun c3 => ?_)
    · have hf := hf.trans (if_pos c3)
      have hok := g_ip c3 hok
      exact False.elim hok
    · have hf := hf.trans (if_neg c3)
      have hok := g_in c3 hok
      refine x_iload_n C dX2_writeRow_24 rfl 2 rfl ?_
      refine x_bipush (v := (40 : Int32)) C dX2_writeRow_25 (by decide) ?_
      refine x_iload_n C dX2_writeRow_27 rfl 1 rfl ?_
      refine x_isub C dX2_writeRow_28 ?_
      refine x_icmp_le (tgt := 42) C dX2_writeRow_29 (by decide) (fun c4 => ?_) (fun c4 => ?_)
      · have hf := hf.trans (if_pos c4)
        have hok := g_ip c4 hok
        refine x_iload_n C dX2_writeRow_42 rfl 3 rfl ?_
        refine x_iconst (v := (4 : Int32)) C dX2_writeRow_43 (by decide) ?_
        have s5 := And.left hok
        have hok := And.right hok
        refine x_callSi (n := 2) C hq (gFr_pure gs_H_0_) (c_h_isIn l G (g_sel [] q) (g_sel [] m) (g_sel [] h) a3 (4 : Int32) s5) (va_cwS 2 C.2.2.2.2.2.1 gX2_writeRow_X2_isIn rfl rfl rfl (by decide +kernel) ⟨Nat.le_of_ble_eq_true rfl, Nat.le_of_ble_eq_true rfl⟩) rfl rfl (Nat.le_of_ble_eq_true rfl) dX2_writeRow_44 (Nat.zero_le _) (Nat.zero_le _) ?_
        refine x_if_ne (tgt := 60) C dX2_writeRow_47 (by decide) (fun c6 => ?_) (fun c6 => ?_)
        · have hf := hf.trans (if_neg c6)
          have hok := g_in c6 hok
          refine x_aload_n C dX2_writeRow_60 rfl 0 rfl ?_
          have s7 := And.left hok
          have hok := And.right hok
          obtain ⟨z8, hz8⟩ : ∃ y9 : gM, y9 = f_h_saveState m := ⟨_, rfl⟩
          have hf := hf.trans (g_let_eq hz8)
          have hok := g_let_p hz8 hok
          have hmz8 : gMpv l yX2_saveState wsX2_saveState rm_h_saveState G shH q 4 m h [.ref (q 0)] z8 h := by rw [hz8]; exact c_h_saveState l G q m h s7
          refine x_callVpv (n := 0) (n4 := 4) C hq hmz8 (cwV 0 C.2.2.2.2.2.1 gX2_writeRow_X2_saveState rfl rfl rfl (by decide +kernel) ⟨Nat.le_of_ble_eq_true rfl, Nat.le_of_ble_eq_true rfl⟩) rfl rfl rfl rfl (Nat.le_of_ble_eq_true rfl) dX2_writeRow_61 (Nat.zero_le _) (Nat.zero_le _) (fun qz8 h4qz8 hqqz8 => ?_)
          refine x_lve (lv' := [(0, .ref (qz8 0)), (1, .int a1), (2, .int a2), (3, .int a3)]) (by rw [h4qz8 0 (by decide)]) ?_
          refine x_aload_n C dX2_writeRow_64 rfl 0 rfl ?_
          refine x_get (v := .ref (qz8 4)) C in_X2_writeRow_2 0 rfl rfl 0 (by decide) k_X2_writeRow_10 rfl rfl dX2_writeRow_65 ?_
          refine x_iload_n C dX2_writeRow_68 rfl 1 rfl ?_
          refine x_iload_n C dX2_writeRow_69 rfl 1 rfl ?_
          refine x_iload_n C dX2_writeRow_70 rfl 2 rfl ?_
          refine x_iadd C dX2_writeRow_71 ?_
          refine x_iconst (v := (1 : Int32)) C dX2_writeRow_72 (by decide) ?_
          refine x_isub C dX2_writeRow_73 ?_
          refine x_iload_n C dX2_writeRow_74 rfl 3 rfl ?_
          have s9 := And.left hok
          have hok := And.right hok
          obtain ⟨z10, hz10⟩ : ∃ y9 : Int32 × gM, y9 = f_s_writePages (g_sel [4, 5, 6, 7, 8, 9, 10, 11, 12, 13, 14, 15, 16, 17, 18, 19] z8) a1 ((a1 + a2) - (1 : Int32)) a3 := ⟨_, rfl⟩
          have hf := hf.trans (g_let_eq hz10)
          have hok := g_let_p hz10 hok
          have hmz10 : gMi l yX1_writePages wsX1_writePages rm_s_writePages G shS (g_sel [4, 5, 6, 7, 8, 9, 10, 11, 12, 13, 14, 15, 16, 17, 18, 19] qz8) (g_sel [4, 5, 6, 7, 8, 9, 10, 11, 12, 13, 14, 15, 16, 17, 18, 19] z8) (g_sel [4, 5, 6, 7, 8, 9, 10, 11, 12, 13, 14, 15, 16, 17, 18, 19] h) [.ref ((g_sel [4, 5, 6, 7, 8, 9, 10, 11, 12, 13, 14, 15, 16, 17, 18, 19] qz8) 0), .int a1, .int ((a1 + a2) - (1 : Int32)), .int a3] z10.2 (g_sel [4, 5, 6, 7, 8, 9, 10, 11, 12, 13, 14, 15, 16, 17, 18, 19] h) z10.1 := by rw [hz10]; exact c_s_writePages l G (g_sel [4, 5, 6, 7, 8, 9, 10, 11, 12, 13, 14, 15, 16, 17, 18, 19] qz8) (g_sel [4, 5, 6, 7, 8, 9, 10, 11, 12, 13, 14, 15, 16, 17, 18, 19] z8) (g_sel [4, 5, 6, 7, 8, 9, 10, 11, 12, 13, 14, 15, 16, 17, 18, 19] h) a1 ((a1 + a2) - (1 : Int32)) a3 s9
          refine x_callVi (n := 3) C hqqz8 (gFr_sub gs_H_S_4_5) (hmz10) (cwV 3 C.2.2.2.2.2.1 gX2_writeRow_X1_writePages rfl rfl rfl (by decide +kernel) ⟨Nat.le_of_ble_eq_true rfl, Nat.le_of_ble_eq_true rfl⟩) rfl rfl rfl rfl (Nat.le_of_ble_eq_true rfl) dX2_writeRow_75 (Nat.zero_le _) (Nat.zero_le _) ?_
          obtain ⟨z11, hz11⟩ : ∃ y9 : gM, y9 = g_mrg [4, 5, 6, 7, 8, 9, 10, 11, 12, 13, 14, 15, 16, 17, 18, 19] z8 z10.2 := ⟨_, rfl⟩
          have hf := hf.trans (g_let_eq hz11)
          have hok := g_let_p hz11 hok
          refine x_mu hz11 (g_mrg_id gs_H_S_4_5.1) ?_
          exact g_pret C hqqz8 h4qz8 hr dX2_writeRow_78 (congrArg (fun z => z.1) hf).symm (congrArg (fun z => z.2) hf).symm rfl
        · have hf := hf.trans (if_pos c6)
          have hok := g_ip c6 hok
          exact False.elim hok
      · have hf := hf.trans (if_neg c4)
        have hok := g_in c4 hok
        exact False.elim hok
  · have hf := hf.trans (if_pos c2)
    have hok := g_ip c2 hok
    exact False.elim hok
set_option maxRecDepth 20000 in
theorem in_X2_trim_2 : ∀ w ∈ u_ws RX2 TX2 7, w ∈ wsX2_trim := by decide +kernel
set_option maxRecDepth 20000 in
theorem k_X2_trim_10 : Cond.fieldLink RX2 10 "HintedPages" "store" "LHintedPages$Store;" ∈ wsX2_trim := by decide +kernel
abbrev rm_h_trim : Room := { frames := 4, cells := 0, slots := 0, locals := 102 }
noncomputable def f_h_trim (m : gM) (a1 : Int32) : Int32 × gM := (if (f_h_isIn a1 (40 : Int32)) = 0 then ((0 : Int32), m) else g_let (f_h_saveState m) (fun z4 : gM => g_let ((f_s_blockOf (g_sel [4, 5, 6, 7, 8, 9, 10, 11, 12, 13, 14, 15, 16, 17, 18, 19] z4) a1)) (fun z6 : Int32 => g_let (f_s_forget (g_sel [4, 5, 6, 7, 8, 9, 10, 11, 12, 13, 14, 15, 16, 17, 18, 19] z4) a1) (fun z8 : gM => g_let (g_mrg [4, 5, 6, 7, 8, 9, 10, 11, 12, 13, 14, 15, 16, 17, 18, 19] z4 z8) (fun z9 : gM => (z6, z9))))))
noncomputable def o_h_trim (m : gM) (a1 : Int32) : Prop := (o_h_isIn a1 (40 : Int32)) ∧ ((if (f_h_isIn a1 (40 : Int32)) = 0 then False else (o_h_saveState m) ∧ (g_let (f_h_saveState m) (fun z4 : gM => (o_s_blockOf (g_sel [4, 5, 6, 7, 8, 9, 10, 11, 12, 13, 14, 15, 16, 17, 18, 19] z4) a1) ∧ (g_let ((f_s_blockOf (g_sel [4, 5, 6, 7, 8, 9, 10, 11, 12, 13, 14, 15, 16, 17, 18, 19] z4) a1)) (fun z6 : Int32 => (o_s_forget (g_sel [4, 5, 6, 7, 8, 9, 10, 11, 12, 13, 14, 15, 16, 17, 18, 19] z4) a1) ∧ (g_let (f_s_forget (g_sel [4, 5, 6, 7, 8, 9, 10, 11, 12, 13, 14, 15, 16, 17, 18, 19] z4) a1) (fun z8 : gM => g_let (g_mrg [4, 5, 6, 7, 8, 9, 10, 11, 12, 13, 14, 15, 16, 17, 18, 19] z4 z8) (fun z9 : gM => True)))))))))
set_option maxRecDepth 100000 in
set_option maxHeartbeats 4000000 in
theorem c_h_trim (l : Launch) (G : gG) (q : Nat → Nat) (m : gM) (h : gN) (a1 : Int32) (hok : o_h_trim m a1) : gMpi l yX2_trim wsX2_trim rm_h_trim G shH q 4 m h [.ref (q 0), .int a1] ((f_h_trim m a1).2) h ((f_h_trim m a1).1) := by
  intro sz
  refine g_met (cc := cX2_trim) (maxL := 3) (ret := (some .int)) (own := RX2) (Qc := fun sz => gQpi G shH q 4 ((f_h_trim m a1).2) h sz ((f_h_trim m a1).1)) (by decide) rfl rfl (Nat.le_of_ble_eq_true rfl) (fun p e s m9 below meth c C hq hr => ?_)
  refine x_lv (lv' := [(0, .ref (q 0)), (1, .int a1)]) [0, 1] rfl ?_
  have hf := f_h_trim.eq_1 m a1
  have hok := Eq.mp (o_h_trim.eq_1 m a1) hok
  refine x_iload_n C dX2_trim_0 rfl 1 rfl ?_
  refine x_bipush (v := (40 : Int32)) C dX2_trim_1 (by decide) ?_
  have s1 := And.left hok
  have hok := And.right hok
  refine x_callSi (n := 2) C hq (gFr_pure gs_H_0_) (c_h_isIn l G (g_sel [] q) (g_sel [] m) (g_sel [] h) a1 (40 : Int32) s1) (va_cwS 2 C.2.2.2.2.2.1 gX2_trim_X2_isIn rfl rfl rfl (by decide +kernel) ⟨Nat.le_of_ble_eq_true rfl, Nat.le_of_ble_eq_true rfl⟩) rfl rfl (Nat.le_of_ble_eq_true rfl) dX2_trim_3 (Nat.zero_le _) (Nat.zero_le _) ?_
  refine x_if_ne (tgt := 19) C dX2_trim_6 (by decide) (fun c2 => ?_) (fun c2 => ?_)
  · have hf := hf.trans (if_neg c2)
    have hok := g_in c2 hok
    refine x_aload_n C dX2_trim_19 rfl 0 rfl ?_
    have s3 := And.left hok
    have hok := And.right hok
    obtain ⟨z4, hz4⟩ : ∃ y9 : gM, y9 = f_h_saveState m := ⟨_, rfl⟩
    have hf := hf.trans (g_let_eq hz4)
    have hok := g_let_p hz4 hok
    have hmz4 : gMpv l yX2_saveState wsX2_saveState rm_h_saveState G shH q 4 m h [.ref (q 0)] z4 h := by rw [hz4]; exact c_h_saveState l G q m h s3
    refine x_callVpv (n := 0) (n4 := 4) C hq hmz4 (cwV 0 C.2.2.2.2.2.1 gX2_trim_X2_saveState rfl rfl rfl (by decide +kernel) ⟨Nat.le_of_ble_eq_true rfl, Nat.le_of_ble_eq_true rfl⟩) rfl rfl rfl rfl (Nat.le_of_ble_eq_true rfl) dX2_trim_20 (Nat.zero_le _) (Nat.zero_le _) (fun qz4 h4qz4 hqqz4 => ?_)
    refine x_lve (lv' := [(0, .ref (qz4 0)), (1, .int a1)]) (by rw [h4qz4 0 (by decide)]) ?_
    refine x_aload_n C dX2_trim_23 rfl 0 rfl ?_
    refine x_get (v := .ref (qz4 4)) C in_X2_trim_2 0 rfl rfl 0 (by decide) k_X2_trim_10 rfl rfl dX2_trim_24 ?_
    refine x_iload_n C dX2_trim_27 rfl 1 rfl ?_
    have s5 := And.left hok
    have hok := And.right hok
    refine x_callVi (n := 1) C hqqz4 (gFr_pure gs_H_S_4_5) (c_s_blockOf l G (g_sel [4, 5, 6, 7, 8, 9, 10, 11, 12, 13, 14, 15, 16, 17, 18, 19] qz4) (g_sel [4, 5, 6, 7, 8, 9, 10, 11, 12, 13, 14, 15, 16, 17, 18, 19] z4) (g_sel [4, 5, 6, 7, 8, 9, 10, 11, 12, 13, 14, 15, 16, 17, 18, 19] h) a1 s5) (cwV 1 C.2.2.2.2.2.1 gX2_trim_X1_blockOf rfl rfl rfl (by decide +kernel) ⟨Nat.le_of_ble_eq_true rfl, Nat.le_of_ble_eq_true rfl⟩) rfl rfl rfl rfl (Nat.le_of_ble_eq_true rfl) dX2_trim_28 (Nat.zero_le _) (Nat.zero_le _) ?_
    obtain ⟨z6, hz6⟩ : ∃ y9 : Int32, y9 = (f_s_blockOf (g_sel [4, 5, 6, 7, 8, 9, 10, 11, 12, 13, 14, 15, 16, 17, 18, 19] z4) a1) := ⟨_, rfl⟩
    have hf := hf.trans (g_let_eq hz6)
    have hok := g_let_p hz6 hok
    refine x_topi hz6 ?_
    refine x_istore_n (lv' := [(0, .ref (qz4 0)), (1, .int a1), (2, .int z6)]) C dX2_trim_31 rfl (by decide) [1, 2, 0] rfl ?_
    refine x_aload_n C dX2_trim_32 rfl 0 rfl ?_
    refine x_get (v := .ref (qz4 4)) C in_X2_trim_2 0 rfl rfl 0 (by decide) k_X2_trim_10 rfl rfl dX2_trim_33 ?_
    refine x_iload_n C dX2_trim_36 rfl 1 rfl ?_
    have s7 := And.left hok
    have hok := And.right hok
    obtain ⟨z8, hz8⟩ : ∃ y9 : gM, y9 = f_s_forget (g_sel [4, 5, 6, 7, 8, 9, 10, 11, 12, 13, 14, 15, 16, 17, 18, 19] z4) a1 := ⟨_, rfl⟩
    have hf := hf.trans (g_let_eq hz8)
    have hok := g_let_p hz8 hok
    have hmz8 : gMv l yX1_forget wsX1_forget rm_s_forget G shS (g_sel [4, 5, 6, 7, 8, 9, 10, 11, 12, 13, 14, 15, 16, 17, 18, 19] qz4) (g_sel [4, 5, 6, 7, 8, 9, 10, 11, 12, 13, 14, 15, 16, 17, 18, 19] z4) (g_sel [4, 5, 6, 7, 8, 9, 10, 11, 12, 13, 14, 15, 16, 17, 18, 19] h) [.ref ((g_sel [4, 5, 6, 7, 8, 9, 10, 11, 12, 13, 14, 15, 16, 17, 18, 19] qz4) 0), .int a1] z8 (g_sel [4, 5, 6, 7, 8, 9, 10, 11, 12, 13, 14, 15, 16, 17, 18, 19] h) := by rw [hz8]; exact c_s_forget l G (g_sel [4, 5, 6, 7, 8, 9, 10, 11, 12, 13, 14, 15, 16, 17, 18, 19] qz4) (g_sel [4, 5, 6, 7, 8, 9, 10, 11, 12, 13, 14, 15, 16, 17, 18, 19] z4) (g_sel [4, 5, 6, 7, 8, 9, 10, 11, 12, 13, 14, 15, 16, 17, 18, 19] h) a1 s7
    refine x_callVv (n := 1) C hqqz4 (gFr_sub gs_H_S_4_5) (hmz8) (cwV 1 C.2.2.2.2.2.1 gX2_trim_X1_forget rfl rfl rfl (by decide +kernel) ⟨Nat.le_of_ble_eq_true rfl, Nat.le_of_ble_eq_true rfl⟩) rfl rfl rfl rfl (Nat.le_of_ble_eq_true rfl) dX2_trim_37 (Nat.zero_le _) (Nat.zero_le _) ?_
    obtain ⟨z9, hz9⟩ : ∃ y9 : gM, y9 = g_mrg [4, 5, 6, 7, 8, 9, 10, 11, 12, 13, 14, 15, 16, 17, 18, 19] z4 z8 := ⟨_, rfl⟩
    have hf := hf.trans (g_let_eq hz9)
    have hok := g_let_p hz9 hok
    refine x_mu hz9 (g_mrg_id gs_H_S_4_5.1) ?_
    refine x_iload_n C dX2_trim_40 rfl 2 rfl ?_
    exact g_pret C hqqz4 h4qz4 hr dX2_trim_41 (congrArg (fun z => z.1) hf).symm (congrArg (fun z => z.2) hf).symm rfl
  · have hf := hf.trans (if_pos c2)
    have hok := g_ip c2 hok
    exact False.elim hok
set_option maxRecDepth 20000 in
theorem in_X2_hint_1 : ∀ w ∈ u_ws RX1 TX1 17, w ∈ wsX2_hint := by decide +kernel
set_option maxRecDepth 20000 in
theorem in_X2_hint_2 : ∀ w ∈ u_ws RX2 TX2 7, w ∈ wsX2_hint := by decide +kernel
set_option maxRecDepth 20000 in
theorem k_X2_hint_10 : Cond.fieldLink RX2 10 "HintedPages" "store" "LHintedPages$Store;" ∈ wsX2_hint := by decide +kernel
set_option maxRecDepth 20000 in
theorem k_X2_hint_83 : Cond.fieldLink RX2 83 "HintedPages$Store" "hintOfPage" "[I" ∈ wsX2_hint := by decide +kernel
abbrev rm_h_hint : Room := { frames := 4, cells := 0, slots := 0, locals := 102 }
noncomputable def f_h_hint (m : gM) (a1 : Int32) (a2 : Int32) : Int32 × gM := (if (f_h_isIn a1 (40 : Int32)) = 0 then ((0 : Int32), m) else (if (f_h_isIn a2 (4 : Int32)) = 0 then ((0 : Int32), m) else (if (f_s_isWritten (g_sel [4, 5, 6, 7, 8, 9, 10, 11, 12, 13, 14, 15, 16, 17, 18, 19] m) a1) = 0 then ((0 : Int32), m) else g_let (f_h_saveState m) (fun z8 : gM => g_let ((z8 6 a1.toNatClampNeg)) (fun z10 : Int32 => g_let (g_set z8 6 (upd (z8 6) a1.toNatClampNeg a2)) (fun z12 : gM => (z10, z12)))))))
noncomputable def o_h_hint (m : gM) (a1 : Int32) (a2 : Int32) : Prop := (o_h_isIn a1 (40 : Int32)) ∧ ((if (f_h_isIn a1 (40 : Int32)) = 0 then False else (o_h_isIn a2 (4 : Int32)) ∧ ((if (f_h_isIn a2 (4 : Int32)) = 0 then False else (o_s_isWritten (g_sel [4, 5, 6, 7, 8, 9, 10, 11, 12, 13, 14, 15, 16, 17, 18, 19] m) a1) ∧ ((if (f_s_isWritten (g_sel [4, 5, 6, 7, 8, 9, 10, 11, 12, 13, 14, 15, 16, 17, 18, 19] m) a1) = 0 then False else (o_h_saveState m) ∧ (g_let (f_h_saveState m) (fun z8 : gM => (vp_in a1 40) ∧ (g_let ((z8 6 a1.toNatClampNeg)) (fun z10 : Int32 => (vp_in a1 40) ∧ (g_let (g_set z8 6 (upd (z8 6) a1.toNatClampNeg a2)) (fun z12 : gM => True))))))))))))
set_option maxRecDepth 100000 in
set_option maxHeartbeats 4000000 in
theorem c_h_hint (l : Launch) (G : gG) (q : Nat → Nat) (m : gM) (h : gN) (a1 : Int32) (a2 : Int32) (hok : o_h_hint m a1 a2) : gMpi l yX2_hint wsX2_hint rm_h_hint G shH q 4 m h [.ref (q 0), .int a1, .int a2] ((f_h_hint m a1 a2).2) h ((f_h_hint m a1 a2).1) := by
  intro sz
  refine g_met (cc := cX2_hint) (maxL := 4) (ret := (some .int)) (own := RX2) (Qc := fun sz => gQpi G shH q 4 ((f_h_hint m a1 a2).2) h sz ((f_h_hint m a1 a2).1)) (by decide) rfl rfl (Nat.le_of_ble_eq_true rfl) (fun p e s m9 below meth c C hq hr => ?_)
  refine x_lv (lv' := [(0, .ref (q 0)), (1, .int a1), (2, .int a2)]) [0, 1, 2] rfl ?_
  have hf := f_h_hint.eq_1 m a1 a2
  have hok := Eq.mp (o_h_hint.eq_1 m a1 a2) hok
  refine x_iload_n C dX2_hint_0 rfl 1 rfl ?_
  refine x_bipush (v := (40 : Int32)) C dX2_hint_1 (by decide) ?_
  have s1 := And.left hok
  have hok := And.right hok
  refine x_callSi (n := 2) C hq (gFr_pure gs_H_0_) (c_h_isIn l G (g_sel [] q) (g_sel [] m) (g_sel [] h) a1 (40 : Int32) s1) (va_cwS 2 C.2.2.2.2.2.1 gX2_hint_X2_isIn rfl rfl rfl (by decide +kernel) ⟨Nat.le_of_ble_eq_true rfl, Nat.le_of_ble_eq_true rfl⟩) rfl rfl (Nat.le_of_ble_eq_true rfl) dX2_hint_3 (Nat.zero_le _) (Nat.zero_le _) ?_
  refine x_if_ne (tgt := 19) C dX2_hint_6 (by decide) (fun c2 => ?_) (fun c2 => ?_)
  · have hf := hf.trans (if_neg c2)
    have hok := g_in c2 hok
    refine x_iload_n C dX2_hint_19 rfl 2 rfl ?_
    refine x_iconst (v := (4 : Int32)) C dX2_hint_20 (by decide) ?_
    have s3 := And.left hok
    have hok := And.right hok
    refine x_callSi (n := 2) C hq (gFr_pure gs_H_0_) (c_h_isIn l G (g_sel [] q) (g_sel [] m) (g_sel [] h) a2 (4 : Int32) s3) (va_cwS 2 C.2.2.2.2.2.1 gX2_hint_X2_isIn rfl rfl rfl (by decide +kernel) ⟨Nat.le_of_ble_eq_true rfl, Nat.le_of_ble_eq_true rfl⟩) rfl rfl (Nat.le_of_ble_eq_true rfl) dX2_hint_21 (Nat.zero_le _) (Nat.zero_le _) ?_
    refine x_if_ne (tgt := 37) C dX2_hint_24 (by decide) (fun c4 => ?_) (fun c4 => ?_)
    · have hf := hf.trans (if_neg c4)
      have hok := g_in c4 hok
      refine x_aload_n C dX2_hint_37 rfl 0 rfl ?_
      refine x_get (v := .ref (q 4)) C in_X2_hint_2 0 rfl rfl 0 (by decide) k_X2_hint_10 rfl rfl dX2_hint_38 ?_
      refine x_iload_n C dX2_hint_41 rfl 1 rfl ?_
      have s5 := And.left hok
      have hok := And.right hok
      refine x_callVi (n := 1) C hq (gFr_pure gs_H_S_4_5) (c_s_isWritten l G (g_sel [4, 5, 6, 7, 8, 9, 10, 11, 12, 13, 14, 15, 16, 17, 18, 19] q) (g_sel [4, 5, 6, 7, 8, 9, 10, 11, 12, 13, 14, 15, 16, 17, 18, 19] m) (g_sel [4, 5, 6, 7, 8, 9, 10, 11, 12, 13, 14, 15, 16, 17, 18, 19] h) a1 s5) (cwV 1 C.2.2.2.2.2.1 gX2_hint_X1_isWritten rfl rfl rfl (by decide +kernel) ⟨Nat.le_of_ble_eq_true rfl, Nat.le_of_ble_eq_true rfl⟩) rfl rfl rfl rfl (Nat.le_of_ble_eq_true rfl) dX2_hint_42 (Nat.zero_le _) (Nat.zero_le _) ?_
      refine x_if_ne (tgt := 58) C dX2_hint_45 (by decide) (fun c6 => ?_) (fun c6 => ?_)
      · have hf := hf.trans (if_neg c6)
        have hok := g_in c6 hok
        refine x_aload_n C dX2_hint_58 rfl 0 rfl ?_
        have s7 := And.left hok
        have hok := And.right hok
        obtain ⟨z8, hz8⟩ : ∃ y9 : gM, y9 = f_h_saveState m := ⟨_, rfl⟩
        have hf := hf.trans (g_let_eq hz8)
        have hok := g_let_p hz8 hok
        have hmz8 : gMpv l yX2_saveState wsX2_saveState rm_h_saveState G shH q 4 m h [.ref (q 0)] z8 h := by rw [hz8]; exact c_h_saveState l G q m h s7
        refine x_callVpv (n := 0) (n4 := 4) C hq hmz8 (cwV 0 C.2.2.2.2.2.1 gX2_hint_X2_saveState rfl rfl rfl (by decide +kernel) ⟨Nat.le_of_ble_eq_true rfl, Nat.le_of_ble_eq_true rfl⟩) rfl rfl rfl rfl (Nat.le_of_ble_eq_true rfl) dX2_hint_59 (Nat.zero_le _) (Nat.zero_le _) (fun qz8 h4qz8 hqqz8 => ?_)
        refine x_lve (lv' := [(0, .ref (qz8 0)), (1, .int a1), (2, .int a2)]) (by rw [h4qz8 0 (by decide)]) ?_
        refine x_aload_n C dX2_hint_62 rfl 0 rfl ?_
        refine x_get (v := .ref (qz8 4)) C in_X2_hint_2 0 rfl rfl 0 (by decide) k_X2_hint_10 rfl rfl dX2_hint_63 ?_
        refine x_get (v := .ref (qz8 6)) C in_X2_hint_1 4 rfl rfl 1 (by decide) k_X2_hint_83 rfl rfl dX2_hint_66 ?_
        refine x_iload_n C dX2_hint_69 rfl 1 rfl ?_
        have s9 := And.left hok
        have hok := And.right hok
        refine x_iald (n := 40) (v := (z8 6 a1.toNatClampNeg)) C 6 rfl s9 rfl dX2_hint_70 ?_
        obtain ⟨z10, hz10⟩ : ∃ y9 : Int32, y9 = (z8 6 a1.toNatClampNeg) := ⟨_, rfl⟩
        have hf := hf.trans (g_let_eq hz10)
        have hok := g_let_p hz10 hok
        refine x_topi hz10 ?_
        refine x_istore_n (lv' := [(0, .ref (qz8 0)), (1, .int a1), (2, .int a2), (3, .int z10)]) C dX2_hint_71 rfl (by decide) [1, 2, 3, 0] rfl ?_
        refine x_aload_n C dX2_hint_72 rfl 0 rfl ?_
        refine x_get (v := .ref (qz8 4)) C in_X2_hint_2 0 rfl rfl 0 (by decide) k_X2_hint_10 rfl rfl dX2_hint_73 ?_
        refine x_get (v := .ref (qz8 6)) C in_X2_hint_1 4 rfl rfl 1 (by decide) k_X2_hint_83 rfl rfl dX2_hint_76 ?_
        refine x_iload_n C dX2_hint_79 rfl 1 rfl ?_
        refine x_iload_n C dX2_hint_80 rfl 2 rfl ?_
        have s11 := And.left hok
        have hok := And.right hok
        obtain ⟨z12, hz12⟩ : ∃ y9 : gM, y9 = g_set z8 6 (upd (z8 6) a1.toNatClampNeg a2) := ⟨_, rfl⟩
        have hf := hf.trans (g_let_eq hz12)
        have hok := g_let_p hz12 hok
        refine x_iast (μ' := z12) (n := 40) C hqqz8 6 rfl s11 hz12 dX2_hint_81 ?_
        refine x_iload_n C dX2_hint_82 rfl 3 rfl ?_
        exact g_pret C hqqz8 h4qz8 hr dX2_hint_83 (congrArg (fun z => z.1) hf).symm (congrArg (fun z => z.2) hf).symm rfl
      · have hf := hf.trans (if_pos c6)
        have hok := g_ip c6 hok
        exact False.elim hok
    · have hf := hf.trans (if_pos c4)
      have hok := g_ip c4 hok
      exact False.elim hok
  · have hf := hf.trans (if_pos c2)
    have hok := g_ip c2 hok
    exact False.elim hok
set_option maxRecDepth 20000 in
theorem in_X2_collect_2 : ∀ w ∈ u_ws RX2 TX2 7, w ∈ wsX2_collect := by decide +kernel
set_option maxRecDepth 20000 in
theorem k_X2_collect_10 : Cond.fieldLink RX2 10 "HintedPages" "store" "LHintedPages$Store;" ∈ wsX2_collect := by decide +kernel
abbrev rm_h_collect : Room := { frames := 4, cells := 0, slots := 0, locals := 102 }
noncomputable def f_h_collect (m : gM) (a1 : Int32) : Int32 × gM := (if (f_h_isIn a1 (12 : Int32)) = 0 then ((0 : Int32), m) else (if (f_s_stateOf (g_sel [4, 5, 6, 7, 8, 9, 10, 11, 12, 13, 14, 15, 16, 17, 18, 19] m) a1) = (2 : Int32) then g_let (f_h_saveState m) (fun z6 : gM => g_let ((f_s_copies (g_sel [4, 5, 6, 7, 8, 9, 10, 11, 12, 13, 14, 15, 16, 17, 18, 19] z6))) (fun z8 : Int32 => g_let (f_s_collectBlock (g_sel [4, 5, 6, 7, 8, 9, 10, 11, 12, 13, 14, 15, 16, 17, 18, 19] z6) a1) (fun z10 : gM => g_let (g_mrg [4, 5, 6, 7, 8, 9, 10, 11, 12, 13, 14, 15, 16, 17, 18, 19] z6 z10) (fun z11 : gM => (((f_s_copies (g_sel [4, 5, 6, 7, 8, 9, 10, 11, 12, 13, 14, 15, 16, 17, 18, 19] z11)) - z8), z11))))) else ((0 : Int32), m)))
noncomputable def o_h_collect (m : gM) (a1 : Int32) : Prop := (o_h_isIn a1 (12 : Int32)) ∧ ((if (f_h_isIn a1 (12 : Int32)) = 0 then False else (o_s_stateOf (g_sel [4, 5, 6, 7, 8, 9, 10, 11, 12, 13, 14, 15, 16, 17, 18, 19] m) a1) ∧ ((if (f_s_stateOf (g_sel [4, 5, 6, 7, 8, 9, 10, 11, 12, 13, 14, 15, 16, 17, 18, 19] m) a1) = (2 : Int32) then (o_h_saveState m) ∧ (g_let (f_h_saveState m) (fun z6 : gM => (o_s_copies (g_sel [4, 5, 6, 7, 8, 9, 10, 11, 12, 13, 14, 15, 16, 17, 18, 19] z6)) ∧ (g_let ((f_s_copies (g_sel [4, 5, 6, 7, 8, 9, 10, 11, 12, 13, 14, 15, 16, 17, 18, 19] z6))) (fun z8 : Int32 => (o_s_collectBlock (g_sel [4, 5, 6, 7, 8, 9, 10, 11, 12, 13, 14, 15, 16, 17, 18, 19] z6) a1) ∧ (g_let (f_s_collectBlock (g_sel [4, 5, 6, 7, 8, 9, 10, 11, 12, 13, 14, 15, 16, 17, 18, 19] z6) a1) (fun z10 : gM => g_let (g_mrg [4, 5, 6, 7, 8, 9, 10, 11, 12, 13, 14, 15, 16, 17, 18, 19] z6 z10) (fun z11 : gM => (o_s_copies (g_sel [4, 5, 6, 7, 8, 9, 10, 11, 12, 13, 14, 15, 16, 17, 18, 19] z11)) ∧ (True)))))))) else False))))
set_option maxRecDepth 100000 in
set_option maxHeartbeats 4000000 in
theorem c_h_collect (l : Launch) (G : gG) (q : Nat → Nat) (m : gM) (h : gN) (a1 : Int32) (hok : o_h_collect m a1) : gMpi l yX2_collect wsX2_collect rm_h_collect G shH q 4 m h [.ref (q 0), .int a1] ((f_h_collect m a1).2) h ((f_h_collect m a1).1) := by
  intro sz
  refine g_met (cc := cX2_collect) (maxL := 3) (ret := (some .int)) (own := RX2) (Qc := fun sz => gQpi G shH q 4 ((f_h_collect m a1).2) h sz ((f_h_collect m a1).1)) (by decide) rfl rfl (Nat.le_of_ble_eq_true rfl) (fun p e s m9 below meth c C hq hr => ?_)
  refine x_lv (lv' := [(0, .ref (q 0)), (1, .int a1)]) [0, 1] rfl ?_
  have hf := f_h_collect.eq_1 m a1
  have hok := Eq.mp (o_h_collect.eq_1 m a1) hok
  refine x_iload_n C dX2_collect_0 rfl 1 rfl ?_
  refine x_bipush (v := (12 : Int32)) C dX2_collect_1 (by decide) ?_
  have s1 := And.left hok
  have hok := And.right hok
  refine x_callSi (n := 2) C hq (gFr_pure gs_H_0_) (c_h_isIn l G (g_sel [] q) (g_sel [] m) (g_sel [] h) a1 (12 : Int32) s1) (va_cwS 2 C.2.2.2.2.2.1 gX2_collect_X2_isIn rfl rfl rfl (by decide +kernel) ⟨Nat.le_of_ble_eq_true rfl, Nat.le_of_ble_eq_true rfl⟩) rfl rfl (Nat.le_of_ble_eq_true rfl) dX2_collect_3 (Nat.zero_le _) (Nat.zero_le _) ?_
  refine x_if_ne (tgt := 19) C dX2_collect_6 (by decide) (fun c2 => ?_) (fun c2 => ?_)
  · have hf := hf.trans (if_neg c2)
    have hok := g_in c2 hok
    refine x_aload_n C dX2_collect_19 rfl 0 rfl ?_
    refine x_get (v := .ref (q 4)) C in_X2_collect_2 0 rfl rfl 0 (by decide) k_X2_collect_10 rfl rfl dX2_collect_20 ?_
    refine x_iload_n C dX2_collect_23 rfl 1 rfl ?_
    have s3 := And.left hok
    have hok := And.right hok
    refine x_callVi (n := 1) C hq (gFr_pure gs_H_S_4_5) (c_s_stateOf l G (g_sel [4, 5, 6, 7, 8, 9, 10, 11, 12, 13, 14, 15, 16, 17, 18, 19] q) (g_sel [4, 5, 6, 7, 8, 9, 10, 11, 12, 13, 14, 15, 16, 17, 18, 19] m) (g_sel [4, 5, 6, 7, 8, 9, 10, 11, 12, 13, 14, 15, 16, 17, 18, 19] h) a1 s3) (cwV 1 C.2.2.2.2.2.1 gX2_collect_X1_stateOf rfl rfl rfl (by decide +kernel) ⟨Nat.le_of_ble_eq_true rfl, Nat.le_of_ble_eq_true rfl⟩) rfl rfl rfl rfl (Nat.le_of_ble_eq_true rfl) dX2_collect_24 (Nat.zero_le _) (Nat.zero_le _) ?_
    refine x_iconst (v := (2 : Int32)) C dX2_collect_27 (by decide) ?_
    refine x_icmp_eq (tgt := 41) C dX2_collect_28 (by decide) (fun c4 => ?_) (fun c4 => ?_)
    · have hf := hf.trans (if_pos c4)
      have hok := g_ip c4 hok
      refine x_aload_n C dX2_collect_41 rfl 0 rfl ?_
      have s5 := And.left hok
      have hok := And.right hok
      obtain ⟨z6, hz6⟩ : ∃ y9 : gM, y9 = f_h_saveState m := ⟨_, rfl⟩
      have hf := hf.trans (g_let_eq hz6)
      have hok := g_let_p hz6 hok
      have hmz6 : gMpv l yX2_saveState wsX2_saveState rm_h_saveState G shH q 4 m h [.ref (q 0)] z6 h := by rw [hz6]; exact c_h_saveState l G q m h s5
      refine x_callVpv (n := 0) (n4 := 4) C hq hmz6 (cwV 0 C.2.2.2.2.2.1 gX2_collect_X2_saveState rfl rfl rfl (by decide +kernel) ⟨Nat.le_of_ble_eq_true rfl, Nat.le_of_ble_eq_true rfl⟩) rfl rfl rfl rfl (Nat.le_of_ble_eq_true rfl) dX2_collect_42 (Nat.zero_le _) (Nat.zero_le _) (fun qz6 h4qz6 hqqz6 => ?_)
      refine x_lve (lv' := [(0, .ref (qz6 0)), (1, .int a1)]) (by rw [h4qz6 0 (by decide)]) ?_
      refine x_aload_n C dX2_collect_45 rfl 0 rfl ?_
      refine x_get (v := .ref (qz6 4)) C in_X2_collect_2 0 rfl rfl 0 (by decide) k_X2_collect_10 rfl rfl dX2_collect_46 ?_
      have s7 := And.left hok
      have hok := And.right hok
      refine x_callVi (n := 0) C hqqz6 (gFr_pure gs_H_S_4_5) (c_s_copies l G (g_sel [4, 5, 6, 7, 8, 9, 10, 11, 12, 13, 14, 15, 16, 17, 18, 19] qz6) (g_sel [4, 5, 6, 7, 8, 9, 10, 11, 12, 13, 14, 15, 16, 17, 18, 19] z6) (g_sel [4, 5, 6, 7, 8, 9, 10, 11, 12, 13, 14, 15, 16, 17, 18, 19] h) s7) (cwV 0 C.2.2.2.2.2.1 gX2_collect_X1_copies rfl rfl rfl (by decide +kernel) ⟨Nat.le_of_ble_eq_true rfl, Nat.le_of_ble_eq_true rfl⟩) rfl rfl rfl rfl (Nat.le_of_ble_eq_true rfl) dX2_collect_49 (Nat.zero_le _) (Nat.zero_le _) ?_
      obtain ⟨z8, hz8⟩ : ∃ y9 : Int32, y9 = (f_s_copies (g_sel [4, 5, 6, 7, 8, 9, 10, 11, 12, 13, 14, 15, 16, 17, 18, 19] z6)) := ⟨_, rfl⟩
      have hf := hf.trans (g_let_eq hz8)
      have hok := g_let_p hz8 hok
      refine x_topi hz8 ?_
      refine x_istore_n (lv' := [(0, .ref (qz6 0)), (1, .int a1), (2, .int z8)]) C dX2_collect_52 rfl (by decide) [1, 2, 0] rfl ?_
      refine x_aload_n C dX2_collect_53 rfl 0 rfl ?_
      refine x_get (v := .ref (qz6 4)) C in_X2_collect_2 0 rfl rfl 0 (by decide) k_X2_collect_10 rfl rfl dX2_collect_54 ?_
      refine x_iload_n C dX2_collect_57 rfl 1 rfl ?_
      have s9 := And.left hok
      have hok := And.right hok
      obtain ⟨z10, hz10⟩ : ∃ y9 : gM, y9 = f_s_collectBlock (g_sel [4, 5, 6, 7, 8, 9, 10, 11, 12, 13, 14, 15, 16, 17, 18, 19] z6) a1 := ⟨_, rfl⟩
      have hf := hf.trans (g_let_eq hz10)
      have hok := g_let_p hz10 hok
      have hmz10 : gMv l yX1_collectBlock wsX1_collectBlock rm_s_collectBlock G shS (g_sel [4, 5, 6, 7, 8, 9, 10, 11, 12, 13, 14, 15, 16, 17, 18, 19] qz6) (g_sel [4, 5, 6, 7, 8, 9, 10, 11, 12, 13, 14, 15, 16, 17, 18, 19] z6) (g_sel [4, 5, 6, 7, 8, 9, 10, 11, 12, 13, 14, 15, 16, 17, 18, 19] h) [.ref ((g_sel [4, 5, 6, 7, 8, 9, 10, 11, 12, 13, 14, 15, 16, 17, 18, 19] qz6) 0), .int a1] z10 (g_sel [4, 5, 6, 7, 8, 9, 10, 11, 12, 13, 14, 15, 16, 17, 18, 19] h) := by rw [hz10]; exact c_s_collectBlock l G (g_sel [4, 5, 6, 7, 8, 9, 10, 11, 12, 13, 14, 15, 16, 17, 18, 19] qz6) (g_sel [4, 5, 6, 7, 8, 9, 10, 11, 12, 13, 14, 15, 16, 17, 18, 19] z6) (g_sel [4, 5, 6, 7, 8, 9, 10, 11, 12, 13, 14, 15, 16, 17, 18, 19] h) a1 s9
      refine x_callVv (n := 1) C hqqz6 (gFr_sub gs_H_S_4_5) (hmz10) (cwV 1 C.2.2.2.2.2.1 gX2_collect_X1_collectBlock rfl rfl rfl (by decide +kernel) ⟨Nat.le_of_ble_eq_true rfl, Nat.le_of_ble_eq_true rfl⟩) rfl rfl rfl rfl (Nat.le_of_ble_eq_true rfl) dX2_collect_58 (Nat.zero_le _) (Nat.zero_le _) ?_
      obtain ⟨z11, hz11⟩ : ∃ y9 : gM, y9 = g_mrg [4, 5, 6, 7, 8, 9, 10, 11, 12, 13, 14, 15, 16, 17, 18, 19] z6 z10 := ⟨_, rfl⟩
      have hf := hf.trans (g_let_eq hz11)
      have hok := g_let_p hz11 hok
      refine x_mu hz11 (g_mrg_id gs_H_S_4_5.1) ?_
      refine x_aload_n C dX2_collect_61 rfl 0 rfl ?_
      refine x_get (v := .ref (qz6 4)) C in_X2_collect_2 0 rfl rfl 0 (by decide) k_X2_collect_10 rfl rfl dX2_collect_62 ?_
      have s12 := And.left hok
      have hok := And.right hok
      refine x_callVi (n := 0) C hqqz6 (gFr_pure gs_H_S_4_5) (c_s_copies l G (g_sel [4, 5, 6, 7, 8, 9, 10, 11, 12, 13, 14, 15, 16, 17, 18, 19] qz6) (g_sel [4, 5, 6, 7, 8, 9, 10, 11, 12, 13, 14, 15, 16, 17, 18, 19] z11) (g_sel [4, 5, 6, 7, 8, 9, 10, 11, 12, 13, 14, 15, 16, 17, 18, 19] h) s12) (cwV 0 C.2.2.2.2.2.1 gX2_collect_X1_copies rfl rfl rfl (by decide +kernel) ⟨Nat.le_of_ble_eq_true rfl, Nat.le_of_ble_eq_true rfl⟩) rfl rfl rfl rfl (Nat.le_of_ble_eq_true rfl) dX2_collect_65 (Nat.zero_le _) (Nat.zero_le _) ?_
      refine x_iload_n C dX2_collect_68 rfl 2 rfl ?_
      refine x_isub C dX2_collect_69 ?_
      exact g_pret C hqqz6 h4qz6 hr dX2_collect_70 (congrArg (fun z => z.1) hf).symm (congrArg (fun z => z.2) hf).symm rfl
    · have hf := hf.trans (if_neg c4)
      have hok := g_in c4 hok
      exact False.elim hok
  · have hf := hf.trans (if_pos c2)
    have hok := g_ip c2 hok
    exact False.elim hok
set_option maxRecDepth 20000 in
theorem in_X2_tidy_2 : ∀ w ∈ u_ws RX2 TX2 7, w ∈ wsX2_tidy := by decide +kernel
set_option maxRecDepth 20000 in
theorem k_X2_tidy_10 : Cond.fieldLink RX2 10 "HintedPages" "store" "LHintedPages$Store;" ∈ wsX2_tidy := by decide +kernel
abbrev rm_h_tidy : Room := { frames := 4, cells := 0, slots := 0, locals := 102 }
noncomputable def f_h_tidy (m : gM) (a1 : Int32) : Int32 × gM := (if a1 < (1 : Int32) then ((0 : Int32), m) else (if a1 ≤ (12 : Int32) then g_let (f_h_saveState m) (fun z4 : gM => g_let (f_s_collectVictims (g_sel [4, 5, 6, 7, 8, 9, 10, 11, 12, 13, 14, 15, 16, 17, 18, 19] z4) a1) (fun z6 : Int32 × gM => g_let (g_mrg [4, 5, 6, 7, 8, 9, 10, 11, 12, 13, 14, 15, 16, 17, 18, 19] z4 z6.2) (fun z7 : gM => (z6.1, z7)))) else ((0 : Int32), m)))
noncomputable def o_h_tidy (m : gM) (a1 : Int32) : Prop := (if a1 < (1 : Int32) then False else (if a1 ≤ (12 : Int32) then (o_h_saveState m) ∧ (g_let (f_h_saveState m) (fun z4 : gM => (o_s_collectVictims (g_sel [4, 5, 6, 7, 8, 9, 10, 11, 12, 13, 14, 15, 16, 17, 18, 19] z4) a1) ∧ (g_let (f_s_collectVictims (g_sel [4, 5, 6, 7, 8, 9, 10, 11, 12, 13, 14, 15, 16, 17, 18, 19] z4) a1) (fun z6 : Int32 × gM => g_let (g_mrg [4, 5, 6, 7, 8, 9, 10, 11, 12, 13, 14, 15, 16, 17, 18, 19] z4 z6.2) (fun z7 : gM => True))))) else False))
set_option maxRecDepth 100000 in
set_option maxHeartbeats 4000000 in
theorem c_h_tidy (l : Launch) (G : gG) (q : Nat → Nat) (m : gM) (h : gN) (a1 : Int32) (hok : o_h_tidy m a1) : gMpi l yX2_tidy wsX2_tidy rm_h_tidy G shH q 4 m h [.ref (q 0), .int a1] ((f_h_tidy m a1).2) h ((f_h_tidy m a1).1) := by
  intro sz
  refine g_met (cc := cX2_tidy) (maxL := 2) (ret := (some .int)) (own := RX2) (Qc := fun sz => gQpi G shH q 4 ((f_h_tidy m a1).2) h sz ((f_h_tidy m a1).1)) (by decide) rfl rfl (Nat.le_of_ble_eq_true rfl) (fun p e s m9 below meth c C hq hr => ?_)
  refine x_lv (lv' := [(0, .ref (q 0)), (1, .int a1)]) [0, 1] rfl ?_
  have hf := f_h_tidy.eq_1 m a1
  have hok := Eq.mp (o_h_tidy.eq_1 m a1) hok
  refine x_iload_n C dX2_tidy_0 rfl 1 rfl ?_
  refine x_iconst (v := (1 : Int32)) C dX2_tidy_1 (by decide) ?_
  refine x_icmp_lt (tgt := 11) C dX2_tidy_2 (by decide) (fun c1 => ?_) (fun c1 => ?_)
  · have hf := hf.trans (if_pos c1)
    have hok := g_ip c1 hok
    exact False.elim hok
  · have hf := hf.trans (if_neg c1)
    have hok := g_in c1 hok
    refine x_iload_n C dX2_tidy_5 rfl 1 rfl ?_
    refine x_bipush (v := (12 : Int32)) C dX2_tidy_6 (by decide) ?_
    refine x_icmp_le (tgt := 21) C dX2_tidy_8 (by decide) (fun c2 => ?_) (fun c2 => ?_)
    · have hf := hf.trans (if_pos c2)
      have hok := g_ip c2 hok
      refine x_aload_n C dX2_tidy_21 rfl 0 rfl ?_
      have s3 := And.left hok
      have hok := And.right hok
      obtain ⟨z4, hz4⟩ : ∃ y9 : gM, y9 = f_h_saveState m := ⟨_, rfl⟩
      have hf := hf.trans (g_let_eq hz4)
      have hok := g_let_p hz4 hok
      have hmz4 : gMpv l yX2_saveState wsX2_saveState rm_h_saveState G shH q 4 m h [.ref (q 0)] z4 h := by rw [hz4]; exact c_h_saveState l G q m h s3
      refine x_callVpv (n := 0) (n4 := 4) C hq hmz4 (cwV 0 C.2.2.2.2.2.1 gX2_tidy_X2_saveState rfl rfl rfl (by decide +kernel) ⟨Nat.le_of_ble_eq_true rfl, Nat.le_of_ble_eq_true rfl⟩) rfl rfl rfl rfl (Nat.le_of_ble_eq_true rfl) dX2_tidy_22 (Nat.zero_le _) (Nat.zero_le _) (fun qz4 h4qz4 hqqz4 => ?_)
      refine x_lve (lv' := [(0, .ref (qz4 0)), (1, .int a1)]) (by rw [h4qz4 0 (by decide)]) ?_
      refine x_aload_n C dX2_tidy_25 rfl 0 rfl ?_
      refine x_get (v := .ref (qz4 4)) C in_X2_tidy_2 0 rfl rfl 0 (by decide) k_X2_tidy_10 rfl rfl dX2_tidy_26 ?_
      refine x_iload_n C dX2_tidy_29 rfl 1 rfl ?_
      have s5 := And.left hok
      have hok := And.right hok
      obtain ⟨z6, hz6⟩ : ∃ y9 : Int32 × gM, y9 = f_s_collectVictims (g_sel [4, 5, 6, 7, 8, 9, 10, 11, 12, 13, 14, 15, 16, 17, 18, 19] z4) a1 := ⟨_, rfl⟩
      have hf := hf.trans (g_let_eq hz6)
      have hok := g_let_p hz6 hok
      have hmz6 : gMi l yX1_collectVictims wsX1_collectVictims rm_s_collectVictims G shS (g_sel [4, 5, 6, 7, 8, 9, 10, 11, 12, 13, 14, 15, 16, 17, 18, 19] qz4) (g_sel [4, 5, 6, 7, 8, 9, 10, 11, 12, 13, 14, 15, 16, 17, 18, 19] z4) (g_sel [4, 5, 6, 7, 8, 9, 10, 11, 12, 13, 14, 15, 16, 17, 18, 19] h) [.ref ((g_sel [4, 5, 6, 7, 8, 9, 10, 11, 12, 13, 14, 15, 16, 17, 18, 19] qz4) 0), .int a1] z6.2 (g_sel [4, 5, 6, 7, 8, 9, 10, 11, 12, 13, 14, 15, 16, 17, 18, 19] h) z6.1 := by rw [hz6]; exact c_s_collectVictims l G (g_sel [4, 5, 6, 7, 8, 9, 10, 11, 12, 13, 14, 15, 16, 17, 18, 19] qz4) (g_sel [4, 5, 6, 7, 8, 9, 10, 11, 12, 13, 14, 15, 16, 17, 18, 19] z4) (g_sel [4, 5, 6, 7, 8, 9, 10, 11, 12, 13, 14, 15, 16, 17, 18, 19] h) a1 s5
      refine x_callVi (n := 1) C hqqz4 (gFr_sub gs_H_S_4_5) (hmz6) (cwV 1 C.2.2.2.2.2.1 gX2_tidy_X1_collectVictims rfl rfl rfl (by decide +kernel) ⟨Nat.le_of_ble_eq_true rfl, Nat.le_of_ble_eq_true rfl⟩) rfl rfl rfl rfl (Nat.le_of_ble_eq_true rfl) dX2_tidy_30 (Nat.zero_le _) (Nat.zero_le _) ?_
      obtain ⟨z7, hz7⟩ : ∃ y9 : gM, y9 = g_mrg [4, 5, 6, 7, 8, 9, 10, 11, 12, 13, 14, 15, 16, 17, 18, 19] z4 z6.2 := ⟨_, rfl⟩
      have hf := hf.trans (g_let_eq hz7)
      have hok := g_let_p hz7 hok
      refine x_mu hz7 (g_mrg_id gs_H_S_4_5.1) ?_
      exact g_pret C hqqz4 h4qz4 hr dX2_tidy_33 (congrArg (fun z => z.1) hf).symm (congrArg (fun z => z.2) hf).symm rfl
    · have hf := hf.trans (if_neg c2)
      have hok := g_in c2 hok
      exact False.elim hok
set_option maxRecDepth 20000 in
theorem in_X2_set_1 : ∀ w ∈ u_ws RX1 TX1 17, w ∈ wsX2_set := by decide +kernel
set_option maxRecDepth 20000 in
theorem in_X2_set_2 : ∀ w ∈ u_ws RX2 TX2 7, w ∈ wsX2_set := by decide +kernel
set_option maxRecDepth 20000 in
theorem k_X2_set_10 : Cond.fieldLink RX2 10 "HintedPages" "store" "LHintedPages$Store;" ∈ wsX2_set := by decide +kernel
set_option maxRecDepth 20000 in
theorem k_X2_set_112 : Cond.fieldLink RX2 112 "HintedPages$Store" "settings" "[I" ∈ wsX2_set := by decide +kernel
abbrev rm_h_set : Room := { frames := 4, cells := 0, slots := 0, locals := 102 }
noncomputable def f_h_set (m : gM) (a1 : Int32) (a2 : Int32) : Int32 × gM := (if (f_h_isIn a1 (2 : Int32)) = 0 then ((0 : Int32), m) else (if (f_h_isSettingValue a1 a2) = 0 then ((0 : Int32), m) else g_let (f_h_saveState m) (fun z6 : gM => g_let ((z6 19 a1.toNatClampNeg)) (fun z8 : Int32 => g_let (g_set z6 19 (upd (z6 19) a1.toNatClampNeg a2)) (fun z10 : gM => (z8, z10))))))
noncomputable def o_h_set (m : gM) (a1 : Int32) (a2 : Int32) : Prop := (o_h_isIn a1 (2 : Int32)) ∧ ((if (f_h_isIn a1 (2 : Int32)) = 0 then False else (o_h_isSettingValue a1 a2) ∧ ((if (f_h_isSettingValue a1 a2) = 0 then False else (o_h_saveState m) ∧ (g_let (f_h_saveState m) (fun z6 : gM => (vp_in a1 2) ∧ (g_let ((z6 19 a1.toNatClampNeg)) (fun z8 : Int32 => (vp_in a1 2) ∧ (g_let (g_set z6 19 (upd (z6 19) a1.toNatClampNeg a2)) (fun z10 : gM => True))))))))))
set_option maxRecDepth 100000 in
set_option maxHeartbeats 4000000 in
theorem c_h_set (l : Launch) (G : gG) (q : Nat → Nat) (m : gM) (h : gN) (a1 : Int32) (a2 : Int32) (hok : o_h_set m a1 a2) : gMpi l yX2_set wsX2_set rm_h_set G shH q 4 m h [.ref (q 0), .int a1, .int a2] ((f_h_set m a1 a2).2) h ((f_h_set m a1 a2).1) := by
  intro sz
  refine g_met (cc := cX2_set) (maxL := 4) (ret := (some .int)) (own := RX2) (Qc := fun sz => gQpi G shH q 4 ((f_h_set m a1 a2).2) h sz ((f_h_set m a1 a2).1)) (by decide) rfl rfl (Nat.le_of_ble_eq_true rfl) (fun p e s m9 below meth c C hq hr => ?_)
  refine x_lv (lv' := [(0, .ref (q 0)), (1, .int a1), (2, .int a2)]) [0, 1, 2] rfl ?_
  have hf := f_h_set.eq_1 m a1 a2
  have hok := Eq.mp (o_h_set.eq_1 m a1 a2) hok
  refine x_iload_n C dX2_set_0 rfl 1 rfl ?_
  refine x_iconst (v := (2 : Int32)) C dX2_set_1 (by decide) ?_
  have s1 := And.left hok
  have hok := And.right hok
  refine x_callSi (n := 2) C hq (gFr_pure gs_H_0_) (c_h_isIn l G (g_sel [] q) (g_sel [] m) (g_sel [] h) a1 (2 : Int32) s1) (va_cwS 2 C.2.2.2.2.2.1 gX2_set_X2_isIn rfl rfl rfl (by decide +kernel) ⟨Nat.le_of_ble_eq_true rfl, Nat.le_of_ble_eq_true rfl⟩) rfl rfl (Nat.le_of_ble_eq_true rfl) dX2_set_2 (Nat.zero_le _) (Nat.zero_le _) ?_
  refine x_if_ne (tgt := 18) C dX2_set_5 (by decide) (fun c2 => ?_) (fun c2 => ?_)
  · have hf := hf.trans (if_neg c2)
    have hok := g_in c2 hok
    refine x_iload_n C dX2_set_18 rfl 1 rfl ?_
    refine x_iload_n C dX2_set_19 rfl 2 rfl ?_
    have s3 := And.left hok
    have hok := And.right hok
    refine x_callSi (n := 2) C hq (gFr_pure gs_H_0_) (c_h_isSettingValue l G (g_sel [] q) (g_sel [] m) (g_sel [] h) a1 a2 s3) (va_cwS 2 C.2.2.2.2.2.1 gX2_set_X2_isSettingValue rfl rfl rfl (by decide +kernel) ⟨Nat.le_of_ble_eq_true rfl, Nat.le_of_ble_eq_true rfl⟩) rfl rfl (Nat.le_of_ble_eq_true rfl) dX2_set_20 (Nat.zero_le _) (Nat.zero_le _) ?_
    refine x_if_ne (tgt := 36) C dX2_set_23 (by decide) (fun c4 => ?_) (fun c4 => ?_)
    · have hf := hf.trans (if_neg c4)
      have hok := g_in c4 hok
      refine x_aload_n C dX2_set_36 rfl 0 rfl ?_
      have s5 := And.left hok
      have hok := And.right hok
      obtain ⟨z6, hz6⟩ : ∃ y9 : gM, y9 = f_h_saveState m := ⟨_, rfl⟩
      have hf := hf.trans (g_let_eq hz6)
      have hok := g_let_p hz6 hok
      have hmz6 : gMpv l yX2_saveState wsX2_saveState rm_h_saveState G shH q 4 m h [.ref (q 0)] z6 h := by rw [hz6]; exact c_h_saveState l G q m h s5
      refine x_callVpv (n := 0) (n4 := 4) C hq hmz6 (cwV 0 C.2.2.2.2.2.1 gX2_set_X2_saveState rfl rfl rfl (by decide +kernel) ⟨Nat.le_of_ble_eq_true rfl, Nat.le_of_ble_eq_true rfl⟩) rfl rfl rfl rfl (Nat.le_of_ble_eq_true rfl) dX2_set_37 (Nat.zero_le _) (Nat.zero_le _) (fun qz6 h4qz6 hqqz6 => ?_)
      refine x_lve (lv' := [(0, .ref (qz6 0)), (1, .int a1), (2, .int a2)]) (by rw [h4qz6 0 (by decide)]) ?_
      refine x_aload_n C dX2_set_40 rfl 0 rfl ?_
      refine x_get (v := .ref (qz6 4)) C in_X2_set_2 0 rfl rfl 0 (by decide) k_X2_set_10 rfl rfl dX2_set_41 ?_
      refine x_get (v := .ref (qz6 19)) C in_X2_set_1 4 rfl rfl 14 (by decide) k_X2_set_112 rfl rfl dX2_set_44 ?_
      refine x_iload_n C dX2_set_47 rfl 1 rfl ?_
      have s7 := And.left hok
      have hok := And.right hok
      refine x_iald (n := 2) (v := (z6 19 a1.toNatClampNeg)) C 19 rfl s7 rfl dX2_set_48 ?_
      obtain ⟨z8, hz8⟩ : ∃ y9 : Int32, y9 = (z6 19 a1.toNatClampNeg) := ⟨_, rfl⟩
      have hf := hf.trans (g_let_eq hz8)
      have hok := g_let_p hz8 hok
      refine x_topi hz8 ?_
      refine x_istore_n (lv' := [(0, .ref (qz6 0)), (1, .int a1), (2, .int a2), (3, .int z8)]) C dX2_set_49 rfl (by decide) [1, 2, 3, 0] rfl ?_
      refine x_aload_n C dX2_set_50 rfl 0 rfl ?_
      refine x_get (v := .ref (qz6 4)) C in_X2_set_2 0 rfl rfl 0 (by decide) k_X2_set_10 rfl rfl dX2_set_51 ?_
      refine x_get (v := .ref (qz6 19)) C in_X2_set_1 4 rfl rfl 14 (by decide) k_X2_set_112 rfl rfl dX2_set_54 ?_
      refine x_iload_n C dX2_set_57 rfl 1 rfl ?_
      refine x_iload_n C dX2_set_58 rfl 2 rfl ?_
      have s9 := And.left hok
      have hok := And.right hok
      obtain ⟨z10, hz10⟩ : ∃ y9 : gM, y9 = g_set z6 19 (upd (z6 19) a1.toNatClampNeg a2) := ⟨_, rfl⟩
      have hf := hf.trans (g_let_eq hz10)
      have hok := g_let_p hz10 hok
      refine x_iast (μ' := z10) (n := 2) C hqqz6 19 rfl s9 hz10 dX2_set_59 ?_
      refine x_iload_n C dX2_set_60 rfl 3 rfl ?_
      exact g_pret C hqqz6 h4qz6 hr dX2_set_61 (congrArg (fun z => z.1) hf).symm (congrArg (fun z => z.2) hf).symm rfl
    · have hf := hf.trans (if_pos c4)
      have hok := g_ip c4 hok
      exact False.elim hok
  · have hf := hf.trans (if_pos c2)
    have hok := g_ip c2 hok
    exact False.elim hok
set_option maxRecDepth 20000 in
theorem in_X2_writeAll_0 : ∀ w ∈ u_ws RX0 TX0 4, w ∈ wsX2_writeAll := by decide +kernel
set_option maxRecDepth 20000 in
theorem in_X2_writeAll_2 : ∀ w ∈ u_ws RX2 TX2 7, w ∈ wsX2_writeAll := by decide +kernel
set_option maxRecDepth 20000 in
theorem k_X2_writeAll_10 : Cond.fieldLink RX2 10 "HintedPages" "store" "LHintedPages$Store;" ∈ wsX2_writeAll := by decide +kernel
set_option maxRecDepth 20000 in
theorem k_X2_writeAll_134 : Cond.fieldLink RX2 134 "HintedPages$Reader" "first" "I" ∈ wsX2_writeAll := by decide +kernel
set_option maxRecDepth 20000 in
theorem k_X2_writeAll_137 : Cond.fieldLink RX2 137 "HintedPages$Reader" "last" "I" ∈ wsX2_writeAll := by decide +kernel
set_option maxRecDepth 20000 in
theorem k_X2_writeAll_140 : Cond.fieldLink RX2 140 "HintedPages$Reader" "hint" "I" ∈ wsX2_writeAll := by decide +kernel
set_option maxRecDepth 20000 in
theorem k_X2_writeAll_27 : Cond.fieldLink RX2 27 "HintedPages" "codes" "[I" ∈ wsX2_writeAll := by decide +kernel
set_option maxRecDepth 20000 in
theorem k_X2_writeAll_31 : Cond.fieldLink RX2 31 "HintedPages" "length" "I" ∈ wsX2_writeAll := by decide +kernel
set_option maxRecDepth 20000 in
theorem k_X2_writeAll_37 : Cond.fieldLink RX2 37 "HintedPages" "reader" "LHintedPages$Reader;" ∈ wsX2_writeAll := by decide +kernel
abbrev rm_h_writeAll : Room := { frames := 5, cells := 0, slots := 0, locals := 118 }
noncomputable def L_h_writeAll_46  (z : Int32 × Int32 × gM) : Bool × (Int32 × Int32 × gM) := (if (z.2.2 0 5) ≤ z.2.1 then (false, (z.1, z.2.1, z.2.2)) else g_let (f_d_accepts (g_sel [3] z.2.2) (z.2.2 2 z.2.1.toNatClampNeg)) (fun z4 : Int32 × gM => g_let (g_mrg [3] z.2.2 z4.2) (fun z5 : gM => (if (z.2.1 + (1 : Int32)) = (z5 0 5) then g_let (f_s_writePages (g_sel [4, 5, 6, 7, 8, 9, 10, 11, 12, 13, 14, 15, 16, 17, 18, 19] z5) (z5 3 1) (z5 3 2) (z5 3 3)) (fun z8 : Int32 × gM => g_let (g_mrg [4, 5, 6, 7, 8, 9, 10, 11, 12, 13, 14, 15, 16, 17, 18, 19] z5 z8.2) (fun z9 : gM => g_let ((z.1 + (((z9 3 2) - (z9 3 1)) + (1 : Int32)))) (fun z10 : Int32 => g_let ((z.2.1 + (1 : Int32))) (fun z11 : Int32 => (true, (z10, z11, z9)))))) else (if (z5 2 z.2.1.toNatClampNeg) = (59 : Int32) then g_let (f_s_writePages (g_sel [4, 5, 6, 7, 8, 9, 10, 11, 12, 13, 14, 15, 16, 17, 18, 19] z5) (z5 3 1) (z5 3 2) (z5 3 3)) (fun z16 : Int32 × gM => g_let (g_mrg [4, 5, 6, 7, 8, 9, 10, 11, 12, 13, 14, 15, 16, 17, 18, 19] z5 z16.2) (fun z17 : gM => g_let ((z.1 + (((z17 3 2) - (z17 3 1)) + (1 : Int32)))) (fun z18 : Int32 => g_let ((z.2.1 + (1 : Int32))) (fun z19 : Int32 => (true, (z18, z19, z17)))))) else g_let ((z.2.1 + (1 : Int32))) (fun z14 : Int32 => (true, (z.1, z14, z5))))))))
noncomputable def K_h_writeAll_46  (z : Int32 × Int32 × gM) : Prop := (if (z.2.2 0 5) ≤ z.2.1 then True else (vp_in z.2.1 60) ∧ ((o_d_accepts (g_sel [3] z.2.2) (z.2.2 2 z.2.1.toNatClampNeg)) ∧ (g_let (f_d_accepts (g_sel [3] z.2.2) (z.2.2 2 z.2.1.toNatClampNeg)) (fun z4 : Int32 × gM => g_let (g_mrg [3] z.2.2 z4.2) (fun z5 : gM => (if (z.2.1 + (1 : Int32)) = (z5 0 5) then (o_s_writePages (g_sel [4, 5, 6, 7, 8, 9, 10, 11, 12, 13, 14, 15, 16, 17, 18, 19] z5) (z5 3 1) (z5 3 2) (z5 3 3)) ∧ (g_let (f_s_writePages (g_sel [4, 5, 6, 7, 8, 9, 10, 11, 12, 13, 14, 15, 16, 17, 18, 19] z5) (z5 3 1) (z5 3 2) (z5 3 3)) (fun z8 : Int32 × gM => g_let (g_mrg [4, 5, 6, 7, 8, 9, 10, 11, 12, 13, 14, 15, 16, 17, 18, 19] z5 z8.2) (fun z9 : gM => g_let ((z.1 + (((z9 3 2) - (z9 3 1)) + (1 : Int32)))) (fun z10 : Int32 => g_let ((z.2.1 + (1 : Int32))) (fun z11 : Int32 => True))))) else (vp_in z.2.1 60) ∧ ((if (z5 2 z.2.1.toNatClampNeg) = (59 : Int32) then (o_s_writePages (g_sel [4, 5, 6, 7, 8, 9, 10, 11, 12, 13, 14, 15, 16, 17, 18, 19] z5) (z5 3 1) (z5 3 2) (z5 3 3)) ∧ (g_let (f_s_writePages (g_sel [4, 5, 6, 7, 8, 9, 10, 11, 12, 13, 14, 15, 16, 17, 18, 19] z5) (z5 3 1) (z5 3 2) (z5 3 3)) (fun z16 : Int32 × gM => g_let (g_mrg [4, 5, 6, 7, 8, 9, 10, 11, 12, 13, 14, 15, 16, 17, 18, 19] z5 z16.2) (fun z17 : gM => g_let ((z.1 + (((z17 3 2) - (z17 3 1)) + (1 : Int32)))) (fun z18 : Int32 => g_let ((z.2.1 + (1 : Int32))) (fun z19 : Int32 => True))))) else g_let ((z.2.1 + (1 : Int32))) (fun z14 : Int32 => True)))))))))
set_option maxRecDepth 100000 in
set_option maxHeartbeats 4000000 in
theorem lp_h_writeAll_46 {p : Program} {l : Launch} {e : Env} {s : State} {m9 : MethodId} {args : Array Value} {below : List Frame} {meth : Method} {c : Code} {G : gG} {A : Nat → Prop} {Q : State → Prop} {q : Nat → Nat} (C : xC p s m9 args meth c G A 3 cX2_writeAll RX2 wsX2_writeAll) (hq : gD A q shH.length) (h : gN) : ∀ (n : Nat) (z : Int32 × Int32 × gM), rOk L_h_writeAll_46 K_h_writeAll_46 n z → (∀ z' : Int32 × Int32 × gM, run L_h_writeAll_46 n z = z' → xJ p l e rm_h_writeAll s m9 args below meth c G A 3 Q 0 0 shH q z'.2.2 h [(0, .ref (q 0)), (1, .int z'.1), (2, .int z'.2.1)] [] 144) → xJ p l e rm_h_writeAll s m9 args below meth c G A 3 Q 0 0 shH q z.2.2 h [(0, .ref (q 0)), (1, .int z.1), (2, .int z.2.1)] [] 46 := by
  intro n
  induction n with
  | zero =>
    intro z hok _
    exact rOk_0 hok
  | succ n ih =>
    intro z hok K0
    have hnx := rOk_2 hok
    have hok := rOk_1 hok
    have hf := L_h_writeAll_46.eq_1 z
    have hok := Eq.mp (K_h_writeAll_46.eq_1 z) hok
    refine x_iload_n C dX2_writeAll_46 rfl 2 rfl ?_
    refine x_aload_n C dX2_writeAll_47 rfl 0 rfl ?_
    refine x_get (v := .int (z.2.2 0 5)) C in_X2_writeAll_2 0 rfl rfl 5 (by decide) k_X2_writeAll_31 rfl rfl dX2_writeAll_48 ?_
    refine x_icmp_ge (tgt := 144) C dX2_writeAll_51 (by decide) (fun c1 => ?_) (fun c1 => ?_)
    · have hf := hf.trans (if_pos c1)
      have hok := g_ip c1 hok
      exact K0 ((z.1, z.2.1, z.2.2)) (run_f hf)
    · have hf := hf.trans (if_neg c1)
      have hok := g_in c1 hok
      refine x_aload_n C dX2_writeAll_54 rfl 0 rfl ?_
      refine x_get (v := .ref (q 3)) C in_X2_writeAll_2 0 rfl rfl 6 (by decide) k_X2_writeAll_37 rfl rfl dX2_writeAll_55 ?_
      refine x_aload_n C dX2_writeAll_58 rfl 0 rfl ?_
      refine x_get (v := .ref (q 2)) C in_X2_writeAll_2 0 rfl rfl 4 (by decide) k_X2_writeAll_27 rfl rfl dX2_writeAll_59 ?_
      refine x_iload_n C dX2_writeAll_62 rfl 2 rfl ?_
      have s2 := And.left hok
      have hok := And.right hok
      refine x_iald (n := 60) (v := (z.2.2 2 z.2.1.toNatClampNeg)) C 2 rfl s2 rfl dX2_writeAll_63 ?_
      have s3 := And.left hok
      have hok := And.right hok
      obtain ⟨z4, hz4⟩ : ∃ y9 : Int32 × gM, y9 = f_d_accepts (g_sel [3] z.2.2) (z.2.2 2 z.2.1.toNatClampNeg) := ⟨_, rfl⟩
      have hf := hf.trans (g_let_eq hz4)
      have hok := g_let_p hz4 hok
      have hmz4 : gMi l yX0_accepts wsX0_accepts rm_d_accepts G shR (g_sel [3] q) (g_sel [3] z.2.2) (g_sel [3] h) [.ref ((g_sel [3] q) 0), .int (z.2.2 2 z.2.1.toNatClampNeg)] z4.2 (g_sel [3] h) z4.1 := by rw [hz4]; exact c_d_accepts l G (g_sel [3] q) (g_sel [3] z.2.2) (g_sel [3] h) (z.2.2 2 z.2.1.toNatClampNeg) s3
      refine x_callVi (n := 1) C hq (gFr_sub gs_H_R_3) (hmz4) (cwV 1 C.2.2.2.2.2.1 gX2_writeAll_X0_accepts rfl rfl rfl (by decide +kernel) ⟨Nat.le_of_ble_eq_true rfl, Nat.le_of_ble_eq_true rfl⟩) rfl rfl rfl rfl (Nat.le_of_ble_eq_true rfl) dX2_writeAll_64 (Nat.zero_le _) (Nat.zero_le _) ?_
      obtain ⟨z5, hz5⟩ : ∃ y9 : gM, y9 = g_mrg [3] z.2.2 z4.2 := ⟨_, rfl⟩
      have hf := hf.trans (g_let_eq hz5)
      have hok := g_let_p hz5 hok
      refine x_mu hz5 (g_mrg_id gs_H_R_3.1) ?_
      refine x_pop C dX2_writeAll_67 rfl ?_
      refine x_iload_n C dX2_writeAll_68 rfl 2 rfl ?_
      refine x_iconst (v := (1 : Int32)) C dX2_writeAll_69 (by decide) ?_
      refine x_iadd C dX2_writeAll_70 ?_
      refine x_aload_n C dX2_writeAll_71 rfl 0 rfl ?_
      refine x_get (v := .int (z5 0 5)) C in_X2_writeAll_2 0 rfl rfl 5 (by decide) k_X2_writeAll_31 rfl rfl dX2_writeAll_72 ?_
      refine x_icmp_eq (tgt := 89) C dX2_writeAll_75 (by decide) (fun c6 => ?_) (fun c6 => ?_)
      · have hf := hf.trans (if_pos c6)
        have hok := g_ip c6 hok
        refine x_aload_n C dX2_writeAll_89 rfl 0 rfl ?_
        refine x_get (v := .ref (q 4)) C in_X2_writeAll_2 0 rfl rfl 0 (by decide) k_X2_writeAll_10 rfl rfl dX2_writeAll_90 ?_
        refine x_aload_n C dX2_writeAll_93 rfl 0 rfl ?_
        refine x_get (v := .ref (q 3)) C in_X2_writeAll_2 0 rfl rfl 6 (by decide) k_X2_writeAll_37 rfl rfl dX2_writeAll_94 ?_
        refine x_get (v := .int (z5 3 1)) C in_X2_writeAll_0 3 rfl rfl 1 (by decide) k_X2_writeAll_134 rfl rfl dX2_writeAll_97 ?_
        refine x_aload_n C dX2_writeAll_100 rfl 0 rfl ?_
        refine x_get (v := .ref (q 3)) C in_X2_writeAll_2 0 rfl rfl 6 (by decide) k_X2_writeAll_37 rfl rfl dX2_writeAll_101 ?_
        refine x_get (v := .int (z5 3 2)) C in_X2_writeAll_0 3 rfl rfl 2 (by decide) k_X2_writeAll_137 rfl rfl dX2_writeAll_104 ?_
        refine x_aload_n C dX2_writeAll_107 rfl 0 rfl ?_
        refine x_get (v := .ref (q 3)) C in_X2_writeAll_2 0 rfl rfl 6 (by decide) k_X2_writeAll_37 rfl rfl dX2_writeAll_108 ?_
        refine x_get (v := .int (z5 3 3)) C in_X2_writeAll_0 3 rfl rfl 3 (by decide) k_X2_writeAll_140 rfl rfl dX2_writeAll_111 ?_
        have s7 := And.left hok
        have hok := And.right hok
        obtain ⟨z8, hz8⟩ : ∃ y9 : Int32 × gM, y9 = f_s_writePages (g_sel [4, 5, 6, 7, 8, 9, 10, 11, 12, 13, 14, 15, 16, 17, 18, 19] z5) (z5 3 1) (z5 3 2) (z5 3 3) := ⟨_, rfl⟩
        have hf := hf.trans (g_let_eq hz8)
        have hok := g_let_p hz8 hok
        have hmz8 : gMi l yX1_writePages wsX1_writePages rm_s_writePages G shS (g_sel [4, 5, 6, 7, 8, 9, 10, 11, 12, 13, 14, 15, 16, 17, 18, 19] q) (g_sel [4, 5, 6, 7, 8, 9, 10, 11, 12, 13, 14, 15, 16, 17, 18, 19] z5) (g_sel [4, 5, 6, 7, 8, 9, 10, 11, 12, 13, 14, 15, 16, 17, 18, 19] h) [.ref ((g_sel [4, 5, 6, 7, 8, 9, 10, 11, 12, 13, 14, 15, 16, 17, 18, 19] q) 0), .int (z5 3 1), .int (z5 3 2), .int (z5 3 3)] z8.2 (g_sel [4, 5, 6, 7, 8, 9, 10, 11, 12, 13, 14, 15, 16, 17, 18, 19] h) z8.1 := by rw [hz8]; exact c_s_writePages l G (g_sel [4, 5, 6, 7, 8, 9, 10, 11, 12, 13, 14, 15, 16, 17, 18, 19] q) (g_sel [4, 5, 6, 7, 8, 9, 10, 11, 12, 13, 14, 15, 16, 17, 18, 19] z5) (g_sel [4, 5, 6, 7, 8, 9, 10, 11, 12, 13, 14, 15, 16, 17, 18, 19] h) (z5 3 1) (z5 3 2) (z5 3 3) s7
        refine x_callVi (n := 3) C hq (gFr_sub gs_H_S_4_5) (hmz8) (cwV 3 C.2.2.2.2.2.1 gX2_writeAll_X1_writePages rfl rfl rfl (by decide +kernel) ⟨Nat.le_of_ble_eq_true rfl, Nat.le_of_ble_eq_true rfl⟩) rfl rfl rfl rfl (Nat.le_of_ble_eq_true rfl) dX2_writeAll_114 (Nat.zero_le _) (Nat.zero_le _) ?_
        obtain ⟨z9, hz9⟩ : ∃ y9 : gM, y9 = g_mrg [4, 5, 6, 7, 8, 9, 10, 11, 12, 13, 14, 15, 16, 17, 18, 19] z5 z8.2 := ⟨_, rfl⟩
        have hf := hf.trans (g_let_eq hz9)
        have hok := g_let_p hz9 hok
        refine x_mu hz9 (g_mrg_id gs_H_S_4_5.1) ?_
        refine x_pop C dX2_writeAll_117 rfl ?_
        refine x_iload_n C dX2_writeAll_118 rfl 1 rfl ?_
        refine x_aload_n C dX2_writeAll_119 rfl 0 rfl ?_
        refine x_get (v := .ref (q 3)) C in_X2_writeAll_2 0 rfl rfl 6 (by decide) k_X2_writeAll_37 rfl rfl dX2_writeAll_120 ?_
        refine x_get (v := .int (z9 3 2)) C in_X2_writeAll_0 3 rfl rfl 2 (by decide) k_X2_writeAll_137 rfl rfl dX2_writeAll_123 ?_
        refine x_aload_n C dX2_writeAll_126 rfl 0 rfl ?_
        refine x_get (v := .ref (q 3)) C in_X2_writeAll_2 0 rfl rfl 6 (by decide) k_X2_writeAll_37 rfl rfl dX2_writeAll_127 ?_
        refine x_get (v := .int (z9 3 1)) C in_X2_writeAll_0 3 rfl rfl 1 (by decide) k_X2_writeAll_134 rfl rfl dX2_writeAll_130 ?_
        refine x_isub C dX2_writeAll_133 ?_
        refine x_iconst (v := (1 : Int32)) C dX2_writeAll_134 (by decide) ?_
        refine x_iadd C dX2_writeAll_135 ?_
        refine x_iadd C dX2_writeAll_136 ?_
        obtain ⟨z10, hz10⟩ : ∃ y9 : Int32, y9 = (z.1 + (((z9 3 2) - (z9 3 1)) + (1 : Int32))) := ⟨_, rfl⟩
        have hf := hf.trans (g_let_eq hz10)
        have hok := g_let_p hz10 hok
        refine x_topi hz10 ?_
        refine x_istore_n (lv' := [(0, .ref (q 0)), (1, .int z10), (2, .int z.2.1)]) C dX2_writeAll_137 rfl (by decide) [1, 0, 2] rfl ?_
        obtain ⟨z11, hz11⟩ : ∃ y9 : Int32, y9 = (z.2.1 + (1 : Int32)) := ⟨_, rfl⟩
        have hf := hf.trans (g_let_eq hz11)
        have hok := g_let_p hz11 hok
        refine x_iinc (v := z11) (lv' := [(0, .ref (q 0)), (1, .int z10), (2, .int z11)]) C dX2_writeAll_138 2 rfl hz11.symm (by decide) [1, 2, 0] rfl ?_
        refine x_goto (tgt := 46) C dX2_writeAll_141 (by decide) ?_
        exact ih ((z10, z11, z9)) (rOk_t hnx hf) (fun z' hz => K0 z' ((run_t hf).trans hz))
      · have hf := hf.trans (if_neg c6)
        have hok := g_in c6 hok
        refine x_aload_n C dX2_writeAll_78 rfl 0 rfl ?_
        refine x_get (v := .ref (q 2)) C in_X2_writeAll_2 0 rfl rfl 4 (by decide) k_X2_writeAll_27 rfl rfl dX2_writeAll_79 ?_
        refine x_iload_n C dX2_writeAll_82 rfl 2 rfl ?_
        have s12 := And.left hok
        have hok := And.right hok
        refine x_iald (n := 60) (v := (z5 2 z.2.1.toNatClampNeg)) C 2 rfl s12 rfl dX2_writeAll_83 ?_
        refine x_bipush (v := (59 : Int32)) C dX2_writeAll_84 (by decide) ?_
        refine x_icmp_ne (tgt := 138) C dX2_writeAll_86 (by decide) (fun c13 => ?_) (fun c13 => ?_)
        · have hf := hf.trans (if_neg c13)
          have hok := g_in c13 hok
          obtain ⟨z14, hz14⟩ : ∃ y9 : Int32, y9 = (z.2.1 + (1 : Int32)) := ⟨_, rfl⟩
          have hf := hf.trans (g_let_eq hz14)
          have hok := g_let_p hz14 hok
          refine x_iinc (v := z14) (lv' := [(0, .ref (q 0)), (1, .int z.1), (2, .int z14)]) C dX2_writeAll_138 2 rfl hz14.symm (by decide) [1, 2, 0] rfl ?_
          refine x_goto (tgt := 46) C dX2_writeAll_141 (by decide) ?_
          exact ih ((z.1, z14, z5)) (rOk_t hnx hf) (fun z' hz => K0 z' ((run_t hf).trans hz))
        · have hf := hf.trans (if_pos c13)
          have hok := g_ip c13 hok
          refine x_aload_n C dX2_writeAll_89 rfl 0 rfl ?_
          refine x_get (v := .ref (q 4)) C in_X2_writeAll_2 0 rfl rfl 0 (by decide) k_X2_writeAll_10 rfl rfl dX2_writeAll_90 ?_
          refine x_aload_n C dX2_writeAll_93 rfl 0 rfl ?_
          refine x_get (v := .ref (q 3)) C in_X2_writeAll_2 0 rfl rfl 6 (by decide) k_X2_writeAll_37 rfl rfl dX2_writeAll_94 ?_
          refine x_get (v := .int (z5 3 1)) C in_X2_writeAll_0 3 rfl rfl 1 (by decide) k_X2_writeAll_134 rfl rfl dX2_writeAll_97 ?_
          refine x_aload_n C dX2_writeAll_100 rfl 0 rfl ?_
          refine x_get (v := .ref (q 3)) C in_X2_writeAll_2 0 rfl rfl 6 (by decide) k_X2_writeAll_37 rfl rfl dX2_writeAll_101 ?_
          refine x_get (v := .int (z5 3 2)) C in_X2_writeAll_0 3 rfl rfl 2 (by decide) k_X2_writeAll_137 rfl rfl dX2_writeAll_104 ?_
          refine x_aload_n C dX2_writeAll_107 rfl 0 rfl ?_
          refine x_get (v := .ref (q 3)) C in_X2_writeAll_2 0 rfl rfl 6 (by decide) k_X2_writeAll_37 rfl rfl dX2_writeAll_108 ?_
          refine x_get (v := .int (z5 3 3)) C in_X2_writeAll_0 3 rfl rfl 3 (by decide) k_X2_writeAll_140 rfl rfl dX2_writeAll_111 ?_
          have s15 := And.left hok
          have hok := And.right hok
          obtain ⟨z16, hz16⟩ : ∃ y9 : Int32 × gM, y9 = f_s_writePages (g_sel [4, 5, 6, 7, 8, 9, 10, 11, 12, 13, 14, 15, 16, 17, 18, 19] z5) (z5 3 1) (z5 3 2) (z5 3 3) := ⟨_, rfl⟩
          have hf := hf.trans (g_let_eq hz16)
          have hok := g_let_p hz16 hok
          have hmz16 : gMi l yX1_writePages wsX1_writePages rm_s_writePages G shS (g_sel [4, 5, 6, 7, 8, 9, 10, 11, 12, 13, 14, 15, 16, 17, 18, 19] q) (g_sel [4, 5, 6, 7, 8, 9, 10, 11, 12, 13, 14, 15, 16, 17, 18, 19] z5) (g_sel [4, 5, 6, 7, 8, 9, 10, 11, 12, 13, 14, 15, 16, 17, 18, 19] h) [.ref ((g_sel [4, 5, 6, 7, 8, 9, 10, 11, 12, 13, 14, 15, 16, 17, 18, 19] q) 0), .int (z5 3 1), .int (z5 3 2), .int (z5 3 3)] z16.2 (g_sel [4, 5, 6, 7, 8, 9, 10, 11, 12, 13, 14, 15, 16, 17, 18, 19] h) z16.1 := by rw [hz16]; exact c_s_writePages l G (g_sel [4, 5, 6, 7, 8, 9, 10, 11, 12, 13, 14, 15, 16, 17, 18, 19] q) (g_sel [4, 5, 6, 7, 8, 9, 10, 11, 12, 13, 14, 15, 16, 17, 18, 19] z5) (g_sel [4, 5, 6, 7, 8, 9, 10, 11, 12, 13, 14, 15, 16, 17, 18, 19] h) (z5 3 1) (z5 3 2) (z5 3 3) s15
          refine x_callVi (n := 3) C hq (gFr_sub gs_H_S_4_5) (hmz16) (cwV 3 C.2.2.2.2.2.1 gX2_writeAll_X1_writePages rfl rfl rfl (by decide +kernel) ⟨Nat.le_of_ble_eq_true rfl, Nat.le_of_ble_eq_true rfl⟩) rfl rfl rfl rfl (Nat.le_of_ble_eq_true rfl) dX2_writeAll_114 (Nat.zero_le _) (Nat.zero_le _) ?_
          obtain ⟨z17, hz17⟩ : ∃ y9 : gM, y9 = g_mrg [4, 5, 6, 7, 8, 9, 10, 11, 12, 13, 14, 15, 16, 17, 18, 19] z5 z16.2 := ⟨_, rfl⟩
          have hf := hf.trans (g_let_eq hz17)
          have hok := g_let_p hz17 hok
          refine x_mu hz17 (g_mrg_id gs_H_S_4_5.1) ?_
          refine x_pop C dX2_writeAll_117 rfl ?_
          refine x_iload_n C dX2_writeAll_118 rfl 1 rfl ?_
          refine x_aload_n C dX2_writeAll_119 rfl 0 rfl ?_
          refine x_get (v := .ref (q 3)) C in_X2_writeAll_2 0 rfl rfl 6 (by decide) k_X2_writeAll_37 rfl rfl dX2_writeAll_120 ?_
          refine x_get (v := .int (z17 3 2)) C in_X2_writeAll_0 3 rfl rfl 2 (by decide) k_X2_writeAll_137 rfl rfl dX2_writeAll_123 ?_
          refine x_aload_n C dX2_writeAll_126 rfl 0 rfl ?_
          refine x_get (v := .ref (q 3)) C in_X2_writeAll_2 0 rfl rfl 6 (by decide) k_X2_writeAll_37 rfl rfl dX2_writeAll_127 ?_
          refine x_get (v := .int (z17 3 1)) C in_X2_writeAll_0 3 rfl rfl 1 (by decide) k_X2_writeAll_134 rfl rfl dX2_writeAll_130 ?_
          refine x_isub C dX2_writeAll_133 ?_
          refine x_iconst (v := (1 : Int32)) C dX2_writeAll_134 (by decide) ?_
          refine x_iadd C dX2_writeAll_135 ?_
          refine x_iadd C dX2_writeAll_136 ?_
          obtain ⟨z18, hz18⟩ : ∃ y9 : Int32, y9 = (z.1 + (((z17 3 2) - (z17 3 1)) + (1 : Int32))) := ⟨_, rfl⟩
          have hf := hf.trans (g_let_eq hz18)
          have hok := g_let_p hz18 hok
          refine x_topi hz18 ?_
          refine x_istore_n (lv' := [(0, .ref (q 0)), (1, .int z18), (2, .int z.2.1)]) C dX2_writeAll_137 rfl (by decide) [1, 0, 2] rfl ?_
          obtain ⟨z19, hz19⟩ : ∃ y9 : Int32, y9 = (z.2.1 + (1 : Int32)) := ⟨_, rfl⟩
          have hf := hf.trans (g_let_eq hz19)
          have hok := g_let_p hz19 hok
          refine x_iinc (v := z19) (lv' := [(0, .ref (q 0)), (1, .int z18), (2, .int z19)]) C dX2_writeAll_138 2 rfl hz19.symm (by decide) [1, 2, 0] rfl ?_
          refine x_goto (tgt := 46) C dX2_writeAll_141 (by decide) ?_
          exact ih ((z18, z19, z17)) (rOk_t hnx hf) (fun z' hz => K0 z' ((run_t hf).trans hz))
noncomputable def f_h_writeAll (m : gM) : Int32 × gM := g_let (f_h_readBuffer m) (fun z2 : Int32 × gM => (if z2.1 < (z2.2 0 5) then ((0 : Int32), z2.2) else (if (f_d_isPartWhole (g_sel [3] z2.2)) = 0 then ((0 : Int32), z2.2) else g_let (f_h_saveState z2.2) (fun z7 : gM => g_let (f_d_restart (g_sel [3] z7)) (fun z9 : gM => g_let (g_mrg [3] z7 z9) (fun z10 : gM => g_let (run (L_h_writeAll_46) 400 (((0 : Int32), (0 : Int32), z10))) (fun z12 : Int32 × Int32 × gM => g_let (g_set z12.2.2 0 (upd (z12.2.2 0) 5 (0 : Int32))) (fun z13 : gM => (z12.1, z13)))))))))
noncomputable def o_h_writeAll (m : gM) : Prop := (o_h_readBuffer m) ∧ (g_let (f_h_readBuffer m) (fun z2 : Int32 × gM => (if z2.1 < (z2.2 0 5) then False else (o_d_isPartWhole (g_sel [3] z2.2)) ∧ ((if (f_d_isPartWhole (g_sel [3] z2.2)) = 0 then False else (o_h_saveState z2.2) ∧ (g_let (f_h_saveState z2.2) (fun z7 : gM => (o_d_restart (g_sel [3] z7)) ∧ (g_let (f_d_restart (g_sel [3] z7)) (fun z9 : gM => g_let (g_mrg [3] z7 z9) (fun z10 : gM => (rOk (L_h_writeAll_46) (K_h_writeAll_46) 400 (((0 : Int32), (0 : Int32), z10))) ∧ (g_let (run (L_h_writeAll_46) 400 (((0 : Int32), (0 : Int32), z10))) (fun z12 : Int32 × Int32 × gM => g_let (g_set z12.2.2 0 (upd (z12.2.2 0) 5 (0 : Int32))) (fun z13 : gM => True)))))))))))))
set_option maxRecDepth 100000 in
set_option maxHeartbeats 4000000 in
theorem c_h_writeAll (l : Launch) (G : gG) (q : Nat → Nat) (m : gM) (h : gN) (hok : o_h_writeAll m) : gMpi l yX2_writeAll wsX2_writeAll rm_h_writeAll G shH q 4 m h [.ref (q 0)] ((f_h_writeAll m).2) h ((f_h_writeAll m).1) := by
  intro sz
  refine g_met (cc := cX2_writeAll) (maxL := 3) (ret := (some .int)) (own := RX2) (Qc := fun sz => gQpi G shH q 4 ((f_h_writeAll m).2) h sz ((f_h_writeAll m).1)) (by decide) rfl rfl (Nat.le_of_ble_eq_true rfl) (fun p e s m9 below meth c C hq hr => ?_)
  refine x_lv (lv' := [(0, .ref (q 0))]) [0] rfl ?_
  have hf := f_h_writeAll.eq_1 m
  have hok := Eq.mp (o_h_writeAll.eq_1 m) hok
  refine x_aload_n C dX2_writeAll_0 rfl 0 rfl ?_
  have s1 := And.left hok
  have hok := And.right hok
  obtain ⟨z2, hz2⟩ : ∃ y9 : Int32 × gM, y9 = f_h_readBuffer m := ⟨_, rfl⟩
  have hf := hf.trans (g_let_eq hz2)
  have hok := g_let_p hz2 hok
  have hmz2 : gMi l yX2_readBuffer wsX2_readBuffer rm_h_readBuffer G shH q m h [.ref (q 0)] z2.2 h z2.1 := by rw [hz2]; exact c_h_readBuffer l G q m h s1
  refine x_callVi (n := 0) C hq gFr_same (hmz2) (cwV 0 C.2.2.2.2.2.1 gX2_writeAll_X2_readBuffer rfl rfl rfl (by decide +kernel) ⟨Nat.le_of_ble_eq_true rfl, Nat.le_of_ble_eq_true rfl⟩) rfl rfl rfl rfl (Nat.le_of_ble_eq_true rfl) dX2_writeAll_1 (Nat.zero_le _) (Nat.zero_le _) ?_
  refine x_aload_n C dX2_writeAll_4 rfl 0 rfl ?_
  refine x_get (v := .int (z2.2 0 5)) C in_X2_writeAll_2 0 rfl rfl 5 (by decide) k_X2_writeAll_31 rfl rfl dX2_writeAll_5 ?_
  refine x_icmp_lt (tgt := 21) C dX2_writeAll_8 (by decide) (fun c3 => ?_) (fun c3 => ?_)
  · have hf := hf.trans (if_pos c3)
    have hok := g_ip c3 hok
    exact False.elim hok
  · have hf := hf.trans (if_neg c3)
    have hok := g_in c3 hok
    refine x_aload_n C dX2_writeAll_11 rfl 0 rfl ?_
    refine x_get (v := .ref (q 3)) C in_X2_writeAll_2 0 rfl rfl 6 (by decide) k_X2_writeAll_37 rfl rfl dX2_writeAll_12 ?_
    have s4 := And.left hok
    have hok := And.right hok
    refine x_callVi (n := 0) C hq (gFr_pure gs_H_R_3) (c_d_isPartWhole l G (g_sel [3] q) (g_sel [3] z2.2) (g_sel [3] h) s4) (cwV 0 C.2.2.2.2.2.1 gX2_writeAll_X0_isPartWhole rfl rfl rfl (by decide +kernel) ⟨Nat.le_of_ble_eq_true rfl, Nat.le_of_ble_eq_true rfl⟩) rfl rfl rfl rfl (Nat.le_of_ble_eq_true rfl) dX2_writeAll_15 (Nat.zero_le _) (Nat.zero_le _) ?_
    refine x_if_ne (tgt := 31) C dX2_writeAll_18 (by decide) (fun c5 => ?_) (fun c5 => ?_)
    · have hf := hf.trans (if_neg c5)
      have hok := g_in c5 hok
      refine x_aload_n C dX2_writeAll_31 rfl 0 rfl ?_
      have s6 := And.left hok
      have hok := And.right hok
      obtain ⟨z7, hz7⟩ : ∃ y9 : gM, y9 = f_h_saveState z2.2 := ⟨_, rfl⟩
      have hf := hf.trans (g_let_eq hz7)
      have hok := g_let_p hz7 hok
      have hmz7 : gMpv l yX2_saveState wsX2_saveState rm_h_saveState G shH q 4 z2.2 h [.ref (q 0)] z7 h := by rw [hz7]; exact c_h_saveState l G q z2.2 h s6
      refine x_callVpv (n := 0) (n4 := 4) C hq hmz7 (cwV 0 C.2.2.2.2.2.1 gX2_writeAll_X2_saveState rfl rfl rfl (by decide +kernel) ⟨Nat.le_of_ble_eq_true rfl, Nat.le_of_ble_eq_true rfl⟩) rfl rfl rfl rfl (Nat.le_of_ble_eq_true rfl) dX2_writeAll_32 (Nat.zero_le _) (Nat.zero_le _) (fun qz7 h4qz7 hqqz7 => ?_)
      refine x_lve (lv' := [(0, .ref (qz7 0))]) (by rw [h4qz7 0 (by decide)]) ?_
      refine x_iconst (v := (0 : Int32)) C dX2_writeAll_35 (by decide) ?_
      refine x_istore_n (lv' := [(0, .ref (qz7 0)), (1, .int (0 : Int32))]) C dX2_writeAll_36 rfl (by decide) [1, 0] rfl ?_
      refine x_aload_n C dX2_writeAll_37 rfl 0 rfl ?_
      refine x_get (v := .ref (qz7 3)) C in_X2_writeAll_2 0 rfl rfl 6 (by decide) k_X2_writeAll_37 rfl rfl dX2_writeAll_38 ?_
      have s8 := And.left hok
      have hok := And.right hok
      obtain ⟨z9, hz9⟩ : ∃ y9 : gM, y9 = f_d_restart (g_sel [3] z7) := ⟨_, rfl⟩
      have hf := hf.trans (g_let_eq hz9)
      have hok := g_let_p hz9 hok
      have hmz9 : gMv l yX0_restart wsX0_restart rm_d_restart G shR (g_sel [3] qz7) (g_sel [3] z7) (g_sel [3] h) [.ref ((g_sel [3] qz7) 0)] z9 (g_sel [3] h) := by rw [hz9]; exact c_d_restart l G (g_sel [3] qz7) (g_sel [3] z7) (g_sel [3] h) s8
      refine x_callVv (n := 0) C hqqz7 (gFr_sub gs_H_R_3) (hmz9) (cwV 0 C.2.2.2.2.2.1 gX2_writeAll_X0_restart rfl rfl rfl (by decide +kernel) ⟨Nat.le_of_ble_eq_true rfl, Nat.le_of_ble_eq_true rfl⟩) rfl rfl rfl rfl (Nat.le_of_ble_eq_true rfl) dX2_writeAll_41 (Nat.zero_le _) (Nat.zero_le _) ?_
      obtain ⟨z10, hz10⟩ : ∃ y9 : gM, y9 = g_mrg [3] z7 z9 := ⟨_, rfl⟩
      have hf := hf.trans (g_let_eq hz10)
      have hok := g_let_p hz10 hok
      refine x_mu hz10 (g_mrg_id gs_H_R_3.1) ?_
      refine x_iconst (v := (0 : Int32)) C dX2_writeAll_44 (by decide) ?_
      refine x_istore_n (lv' := [(0, .ref (qz7 0)), (1, .int (0 : Int32)), (2, .int (0 : Int32))]) C dX2_writeAll_45 rfl (by decide) [1, 2, 0] rfl ?_
      have s11 := And.left hok
      have hok := And.right hok
      refine lp_h_writeAll_46 C hqqz7 h 400 (((0 : Int32), (0 : Int32), z10)) s11 (fun z12 hz12 => ?_)
      have hf := hf.trans (g_let_eq hz12.symm)
      have hok := g_let_p hz12.symm hok
      refine x_aload_n C dX2_writeAll_144 rfl 0 rfl ?_
      refine x_iconst (v := (0 : Int32)) C dX2_writeAll_145 (by decide) ?_
      obtain ⟨z13, hz13⟩ : ∃ y9 : gM, y9 = g_set z12.2.2 0 (upd (z12.2.2 0) 5 (0 : Int32)) := ⟨_, rfl⟩
      have hf := hf.trans (g_let_eq hz13)
      have hok := g_let_p hz13 hok
      refine x_puti (μ' := z13) (ty := .int) C hqqz7 tyX2 tyX2_ok nmX2 in_X2_writeAll_2 0 rfl rfl 5 (by decide) k_X2_writeAll_31 rfl (tyX2_ok 5 (by decide)) rfl rfl rfl hz13 dX2_writeAll_146 ?_
      refine x_iload_n C dX2_writeAll_149 rfl 1 rfl ?_
      exact g_pret C hqqz7 h4qz7 hr dX2_writeAll_150 (congrArg (fun z => z.1) hf).symm (congrArg (fun z => z.2) hf).symm rfl
    · have hf := hf.trans (if_pos c5)
      have hok := g_ip c5 hok
      exact False.elim hok
