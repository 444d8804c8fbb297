/-! pages(): the walk -/
theorem gD_0 {A : Nat → Prop} {q : Nat → Nat} : gD A q ([] : List gC).length := ⟨fun i j h => absurd h (Nat.not_lt_zero i), fun k h => absurd h (Nat.not_lt_zero k)⟩
set_option maxRecDepth 20000 in
theorem kn_pages : ∀ w ∈ lwN, w ∈ wsL_pages := mem_r [1, 2, 3, 5, 6] rfl
theorem kx_pages : ∀ w ∈ wsX20, w ∈ wsL_pages := fun _ h => List.mem_cons_of_mem _ (List.mem_append_left _ (List.mem_append_left _ (List.mem_append_left _ (List.mem_append_left _ (List.mem_append_left _ (List.mem_append_right _ h))))))
set_option maxRecDepth 20000 in
theorem kc_L_pages_105 : Cond.constantDouble RL 105 (4610334938539176755) ∈ wsL_pages := by decide +kernel
abbrev rmPG : Room := { frames := 11, cells := 389, slots := 7144, locals := 240 }
set_option maxRecDepth 100000 in
set_option maxHeartbeats 40000000 in
theorem c_l_pages (l : Launch) (hl9 : l.stackTraces = false) (G : gG) (q : Nat → Nat) (μ : gM) (ν : gN) : gMy l yL_pages wsL_pages rmPG G q μ ν [] 1 389 7144 := by
  intro sz
  refine g_mety (cc := cL_pages) (maxL := 2) (ret := (some .boolean)) (own := RL) (Qc := fun sz => gQi G [] q μ ν sz 1) (by decide) rfl rfl (Nat.le_of_ble_eq_true rfl) (fun p e s m9 below meth c C hq hX hE hr => ?_)
  refine x_lv (lv' := []) [] rfl ?_
  refine x_newH (cells' := 132) (slots' := 3197) C kn_pages kx_pages gL_pages_X2_init (by decide) (by decide) hE hq dL_pages_0 dL_pages_3 dL_pages_4 rfl rfl (Nat.le_of_ble_eq_true rfl) (Nat.le_of_ble_eq_true rfl) (fun q1 m1 h1 k1a k1b k1c hq1 => ?_)
  have R1 : Rq 0 m1 (rwN tb_0) [] := Rq_fresh k1a k1b pk_0
  refine x_astore_n (lv' := [(0, .ref (q1 0))]) C dL_pages_7 rfl (by decide) [0] rfl ?_
  refine x_aload_n C dL_pages_8 rfl 0 rfl ?_
  refine x_bipush (v := (9 : Int32)) C dL_pages_9 (by decide) ?_
  refine x_iconst (v := (0 : Int32)) C dL_pages_11 (by decide) ?_
  refine x_iconst (v := (0 : Int32)) C dL_pages_12 (by decide) ?_
  refine x_iconst (v := (0 : Int32)) C dL_pages_13 (by decide) ?_
  refine x_callZw0 (n := 5) (shc := shH) (rest := []) (cells' := 133) (slots' := 3203) C (List.append_nil _).symm hq1 wf_shH rfl hX (cT_undo_IS l hl9 G q1 m1 h1 (0 : Int32) (0 : Int32) (0 : Int32) (undoX R1).1 (undoX R1).2) (vx_cwSW 5 C.2.2.2.2.2.1 gL_pages_L_told rfl rfl rfl (by decide +kernel) ⟨Nat.le_of_ble_eq_true rfl, Nat.le_of_ble_eq_true rfl⟩) rfl rfl (Nat.le_of_ble_eq_true rfl) dL_pages_14 rfl rfl (Nat.le_of_ble_eq_true rfl) (Nat.le_of_ble_eq_true rfl) ?_
  refine x_bipush (v := (-13 : Int32)) C dL_pages_17 (by decide) ?_
  refine x_icmp_ne (tgt := 188) C dL_pages_19 (by decide) (fun w => absurd (by decide) w) (fun _ => ?_)
  refine x_aload_n C dL_pages_22 rfl 0 rfl ?_
  refine x_iconst (v := (1 : Int32)) C dL_pages_23 (by decide) ?_
  refine x_callVi (n := 1) C hq1 gFr_same (c_h_count l G q1 m1 h1 (1 : Int32) (pk_1 R1 (by decide)).1) (cwV 1 C.2.2.2.2.2.1 gL_pages_X2_count rfl rfl rfl (by decide +kernel) ⟨Nat.le_of_ble_eq_true rfl, Nat.le_of_ble_eq_true rfl⟩) rfl rfl rfl rfl (Nat.le_of_ble_eq_true rfl) dL_pages_24 (Nat.le_of_ble_eq_true rfl) (Nat.le_of_ble_eq_true rfl) ?_
  refine x_topi (z := (12 : Int32)) (pk_1 R1 (by decide)).2.symm ?_
  refine x_bipush (v := (12 : Int32)) C dL_pages_27 (by decide) ?_
  refine x_icmp_ne (tgt := 188) C dL_pages_29 (by decide) (fun w => absurd (by decide) w) (fun _ => ?_)
  refine x_aload_n C dL_pages_32 rfl 0 rfl ?_
  refine x_iconst (v := (5 : Int32)) C dL_pages_33 (by decide) ?_
  refine x_callVi (n := 1) C hq1 gFr_same (c_h_count l G q1 m1 h1 (5 : Int32) (pk_2 R1 (by decide)).1) (cwV 1 C.2.2.2.2.2.1 gL_pages_X2_count rfl rfl rfl (by decide +kernel) ⟨Nat.le_of_ble_eq_true rfl, Nat.le_of_ble_eq_true rfl⟩) rfl rfl rfl rfl (Nat.le_of_ble_eq_true rfl) dL_pages_34 (Nat.le_of_ble_eq_true rfl) (Nat.le_of_ble_eq_true rfl) ?_
  refine x_topi (z := (96 : Int32)) (pk_2 R1 (by decide)).2.symm ?_
  refine x_bipush (v := (96 : Int32)) C dL_pages_37 (by decide) ?_
  refine x_icmp_ne (tgt := 188) C dL_pages_39 (by decide) (fun w => absurd (by decide) w) (fun _ => ?_)
  refine x_aload_n C dL_pages_42 rfl 0 rfl ?_
  refine x_bipush (v := (10 : Int32)) C dL_pages_43 (by decide) ?_
  refine x_callVi (n := 1) C hq1 gFr_same (c_h_count l G q1 m1 h1 (10 : Int32) (pk_3 R1 (by decide)).1) (cwV 1 C.2.2.2.2.2.1 gL_pages_X2_count rfl rfl rfl (by decide +kernel) ⟨Nat.le_of_ble_eq_true rfl, Nat.le_of_ble_eq_true rfl⟩) rfl rfl rfl rfl (Nat.le_of_ble_eq_true rfl) dL_pages_45 (Nat.le_of_ble_eq_true rfl) (Nat.le_of_ble_eq_true rfl) ?_
  refine x_topi (z := (-1 : Int32)) (pk_3 R1 (by decide)).2.symm ?_
  refine x_iconst (v := (-1 : Int32)) C dL_pages_48 (by decide) ?_
  refine x_icmp_ne (tgt := 188) C dL_pages_49 (by decide) (fun w => absurd (by decide) w) (fun _ => ?_)
  refine x_aload_n C dL_pages_52 rfl 0 rfl ?_
  refine x_callVd (n := 0) C hq1 gFr_same (c_h_amplification l G q1 m1 h1 (amplQ R1 (by decide)).1) (cwV 0 C.2.2.2.2.2.1 gL_pages_X2_amplification rfl rfl rfl (by decide +kernel) ⟨Nat.le_of_ble_eq_true rfl, Nat.le_of_ble_eq_true rfl⟩) rfl rfl rfl rfl (Nat.le_of_ble_eq_true rfl) dL_pages_53 (Nat.le_of_ble_eq_true rfl) (Nat.le_of_ble_eq_true rfl) ?_
  refine x_topd (z := ef_r_amplified (m0 (rwN tb_0))) ((amplQ R1 (by decide)).2.trans (ee_f_r_amplified _)).symm ?_
  refine x_dconst1 C dL_pages_56 ?_
  refine x_dcmp C dL_pages_57 ?_
  refine x_topi (z := (0 : Int32)) pk_4 ?_
  refine x_if_ne (tgt := 188) C dL_pages_58 (by decide) (fun w => absurd (by decide) w) (fun _ => ?_)
  refine x_aload_n C dL_pages_61 rfl 0 rfl ?_
  refine x_iconst (v := (3 : Int32)) C dL_pages_62 (by decide) ?_
  refine x_iconst (v := (5 : Int32)) C dL_pages_63 (by decide) ?_
  refine x_iconst (v := (0 : Int32)) C dL_pages_64 (by decide) ?_
  refine x_iconst (v := (0 : Int32)) C dL_pages_65 (by decide) ?_
  refine x_callZw0 (n := 5) (shc := shH) (rest := []) (cells' := 134) (slots' := 3209) C (List.append_nil _).symm hq1 wf_shH rfl hX (cT_hint_IS l hl9 G q1 m1 h1 (5 : Int32) (0 : Int32) (0 : Int32) (pk_5 R1).1 (pk_5 R1).2) (vx_cwSW 5 C.2.2.2.2.2.1 gL_pages_L_told rfl rfl rfl (by decide +kernel) ⟨Nat.le_of_ble_eq_true rfl, Nat.le_of_ble_eq_true rfl⟩) rfl rfl (Nat.le_of_ble_eq_true rfl) dL_pages_66 rfl rfl (Nat.le_of_ble_eq_true rfl) (Nat.le_of_ble_eq_true rfl) ?_
  refine x_bipush (v := (-13 : Int32)) C dL_pages_69 (by decide) ?_
  refine x_icmp_ne (tgt := 188) C dL_pages_71 (by decide) (fun w => absurd (by decide) w) (fun _ => ?_)
  refine x_aload_n C dL_pages_74 rfl 0 rfl ?_
  refine x_iconst (v := (4 : Int32)) C dL_pages_75 (by decide) ?_
  refine x_iconst (v := (0 : Int32)) C dL_pages_76 (by decide) ?_
  refine x_iconst (v := (0 : Int32)) C dL_pages_77 (by decide) ?_
  refine x_iconst (v := (0 : Int32)) C dL_pages_78 (by decide) ?_
  refine x_callZw0 (n := 5) (shc := shH) (rest := []) (cells' := 135) (slots' := 3215) C (List.append_nil _).symm hq1 wf_shH rfl hX (cT_collect_IS l hl9 G q1 m1 h1 (0 : Int32) (0 : Int32) (0 : Int32) (pk_6 R1).1 (pk_6 R1).2) (vx_cwSW 5 C.2.2.2.2.2.1 gL_pages_L_told rfl rfl rfl (by decide +kernel) ⟨Nat.le_of_ble_eq_true rfl, Nat.le_of_ble_eq_true rfl⟩) rfl rfl (Nat.le_of_ble_eq_true rfl) dL_pages_79 rfl rfl (Nat.le_of_ble_eq_true rfl) (Nat.le_of_ble_eq_true rfl) ?_
  refine x_bipush (v := (-13 : Int32)) C dL_pages_82 (by decide) ?_
  refine x_icmp_ne (tgt := 188) C dL_pages_84 (by decide) (fun w => absurd (by decide) w) (fun _ => ?_)
  refine x_aload_n C dL_pages_87 rfl 0 rfl ?_
  refine x_iconst (v := (0 : Int32)) C dL_pages_88 (by decide) ?_
  refine x_iconst (v := (4 : Int32)) C dL_pages_89 (by decide) ?_
  refine x_callVi (n := 2) C hq1 gFr_same (c_h_stream l G q1 m1 h1 (0 : Int32) (4 : Int32) (pk_7 R1 (by decide)).1) (cwV 2 C.2.2.2.2.2.1 gL_pages_X2_stream rfl rfl rfl (by decide +kernel) ⟨Nat.le_of_ble_eq_true rfl, Nat.le_of_ble_eq_true rfl⟩) rfl rfl rfl rfl (Nat.le_of_ble_eq_true rfl) dL_pages_90 (Nat.le_of_ble_eq_true rfl) (Nat.le_of_ble_eq_true rfl) ?_
  refine x_topi (z := (0 : Int32)) (pk_7 R1 (by decide)).2.symm ?_
  refine x_if_ne (tgt := 188) C dL_pages_93 (by decide) (fun w => absurd (by decide) w) (fun _ => ?_)
  refine x_aload_n C dL_pages_96 rfl 0 rfl ?_
  refine x_iconst (v := (1 : Int32)) C dL_pages_97 (by decide) ?_
  obtain ⟨y1, y2, y3⟩ := pk_14 R1 (by decide)
  refine x_callVi (n := 1) C hq1 gFr_same (c_h_bestRule l G q1 m1 h1 (1 : Int32) y1) (cwV 1 C.2.2.2.2.2.1 gL_pages_X2_bestRule rfl rfl rfl (by decide +kernel) ⟨Nat.le_of_ble_eq_true rfl, Nat.le_of_ble_eq_true rfl⟩) rfl rfl rfl rfl (Nat.le_of_ble_eq_true rfl) dL_pages_98 (Nat.le_of_ble_eq_true rfl) (Nat.le_of_ble_eq_true rfl) ?_
  refine x_topi (z := (0 : Int32)) y2.symm ?_
  obtain ⟨m2, hm2⟩ : ∃ y : gM, y = (f_h_bestRule m1 (1 : Int32)).2 := ⟨_, rfl⟩
  rw [← hm2] at y3
  refine x_mu2 hm2 rfl ?_
  have R2 : Rq 0 m2 (rwN tb_0) [] := y3
  clear y1 y2 y3 hm2
  refine x_if_ne (tgt := 188) C dL_pages_101 (by decide) (fun w => absurd (by decide) w) (fun _ => ?_)
  refine x_aload_n C dL_pages_104 rfl 0 rfl ?_
  refine x_iconst (v := (1 : Int32)) C dL_pages_105 (by decide) ?_
  obtain ⟨y1, y2, y3⟩ := pk_15 R2 (by decide)
  refine x_callVi (n := 1) C hq1 gFr_same (c_h_ifRewritten l G q1 m2 h1 (1 : Int32) y1) (cwV 1 C.2.2.2.2.2.1 gL_pages_X2_ifRewritten rfl rfl rfl (by decide +kernel) ⟨Nat.le_of_ble_eq_true rfl, Nat.le_of_ble_eq_true rfl⟩) rfl rfl rfl rfl (Nat.le_of_ble_eq_true rfl) dL_pages_106 (Nat.le_of_ble_eq_true rfl) (Nat.le_of_ble_eq_true rfl) ?_
  refine x_topi (z := (0 : Int32)) y2.symm ?_
  obtain ⟨m3, hm3⟩ : ∃ y : gM, y = (f_h_ifRewritten m2 (1 : Int32)).2 := ⟨_, rfl⟩
  rw [← hm3] at y3
  refine x_mu2 hm3 rfl ?_
  have R3 : Rq 0 m3 (rwN tb_0) [] := y3
  clear y1 y2 y3 hm3
  refine x_if_ne (tgt := 188) C dL_pages_109 (by decide) (fun w => absurd (by decide) w) (fun _ => ?_)
  refine x_aload_n C dL_pages_112 rfl 0 rfl ?_
  refine x_iconst (v := (5 : Int32)) C dL_pages_113 (by decide) ?_
  refine x_iconst (v := (2 : Int32)) C dL_pages_114 (by decide) ?_
  obtain ⟨y1, y2, y3⟩ := pk_17 R3 (by decide)
  refine x_callVpi (n := 2) (n4 := 4) C hq1 (c_h_write l G q1 m3 h1 (5 : Int32) (2 : Int32) y1) (cwV 2 C.2.2.2.2.2.1 gL_pages_X2_write rfl rfl rfl (by decide +kernel) ⟨Nat.le_of_ble_eq_true rfl, Nat.le_of_ble_eq_true rfl⟩) rfl rfl rfl rfl (Nat.le_of_ble_eq_true rfl) dL_pages_115 (Nat.le_of_ble_eq_true rfl) (Nat.le_of_ble_eq_true rfl) (fun q4 e4 hq4 => ?_)
  refine x_topi (z := (0 : Int32)) y2.symm ?_
  obtain ⟨m4, hm4⟩ : ∃ y : gM, y = (f_h_write m3 (5 : Int32) (2 : Int32)).2 := ⟨_, rfl⟩
  rw [← hm4] at y3
  refine x_mu2 hm4 rfl ?_
  rw [pus_lt (by decide)] at y3
  have R4 : Rq 97 m4 (rwN tb_6) [rwN tb_0] := y3
  clear y1 y2 y3 hm4
  refine x_lve (lv' := [(0, .ref (q4 0))]) (by rw [e4 0 (by decide)]) ?_
  refine x_if_ne (tgt := 188) C dL_pages_118 (by decide) (fun w => absurd (by decide) w) (fun _ => ?_)
  refine x_aload_n C dL_pages_121 rfl 0 rfl ?_
  refine x_iconst (v := (5 : Int32)) C dL_pages_122 (by decide) ?_
  refine x_iconst (v := (0 : Int32)) C dL_pages_123 (by decide) ?_
  refine x_callVi (n := 2) C hq4 gFr_same (c_h_page l G q4 m4 h1 (5 : Int32) (0 : Int32) (pk_18 R4 (by decide)).1) (cwV 2 C.2.2.2.2.2.1 gL_pages_X2_page rfl rfl rfl (by decide +kernel) ⟨Nat.le_of_ble_eq_true rfl, Nat.le_of_ble_eq_true rfl⟩) rfl rfl rfl rfl (Nat.le_of_ble_eq_true rfl) dL_pages_124 (Nat.le_of_ble_eq_true rfl) (Nat.le_of_ble_eq_true rfl) ?_
  refine x_topi (z := (0 : Int32)) (pk_18 R4 (by decide)).2.symm ?_
  refine x_if_ne (tgt := 188) C dL_pages_127 (by decide) (fun w => absurd (by decide) w) (fun _ => ?_)
  refine x_aload_n C dL_pages_130 rfl 0 rfl ?_
  refine x_iconst (v := (5 : Int32)) C dL_pages_131 (by decide) ?_
  refine x_iconst (v := (1 : Int32)) C dL_pages_132 (by decide) ?_
  refine x_callVi (n := 2) C hq4 gFr_same (c_h_page l G q4 m4 h1 (5 : Int32) (1 : Int32) (pk_19 R4 (by decide)).1) (cwV 2 C.2.2.2.2.2.1 gL_pages_X2_page rfl rfl rfl (by decide +kernel) ⟨Nat.le_of_ble_eq_true rfl, Nat.le_of_ble_eq_true rfl⟩) rfl rfl rfl rfl (Nat.le_of_ble_eq_true rfl) dL_pages_133 (Nat.le_of_ble_eq_true rfl) (Nat.le_of_ble_eq_true rfl) ?_
  refine x_topi (z := (0 : Int32)) (pk_19 R4 (by decide)).2.symm ?_
  refine x_if_ne (tgt := 188) C dL_pages_136 (by decide) (fun w => absurd (by decide) w) (fun _ => ?_)
  refine x_aload_n C dL_pages_139 rfl 0 rfl ?_
  refine x_iconst (v := (5 : Int32)) C dL_pages_140 (by decide) ?_
  refine x_iconst (v := (2 : Int32)) C dL_pages_141 (by decide) ?_
  refine x_callVi (n := 2) C hq4 gFr_same (c_h_page l G q4 m4 h1 (5 : Int32) (2 : Int32) (pk_20 R4 (by decide)).1) (cwV 2 C.2.2.2.2.2.1 gL_pages_X2_page rfl rfl rfl (by decide +kernel) ⟨Nat.le_of_ble_eq_true rfl, Nat.le_of_ble_eq_true rfl⟩) rfl rfl rfl rfl (Nat.le_of_ble_eq_true rfl) dL_pages_142 (Nat.le_of_ble_eq_true rfl) (Nat.le_of_ble_eq_true rfl) ?_
  refine x_topi (z := (2 : Int32)) (pk_20 R4 (by decide)).2.symm ?_
  refine x_iconst (v := (2 : Int32)) C dL_pages_145 (by decide) ?_
  refine x_icmp_ne (tgt := 188) C dL_pages_146 (by decide) (fun w => absurd (by decide) w) (fun _ => ?_)
  refine x_aload_n C dL_pages_149 rfl 0 rfl ?_
  refine x_iconst (v := (0 : Int32)) C dL_pages_150 (by decide) ?_
  refine x_iconst (v := (0 : Int32)) C dL_pages_151 (by decide) ?_
  refine x_callVi (n := 2) C hq4 gFr_same (c_h_block l G q4 m4 h1 (0 : Int32) (0 : Int32) (pk_21 R4 (by decide)).1) (cwV 2 C.2.2.2.2.2.1 gL_pages_X2_block rfl rfl rfl (by decide +kernel) ⟨Nat.le_of_ble_eq_true rfl, Nat.le_of_ble_eq_true rfl⟩) rfl rfl rfl rfl (Nat.le_of_ble_eq_true rfl) dL_pages_152 (Nat.le_of_ble_eq_true rfl) (Nat.le_of_ble_eq_true rfl) ?_
  refine x_topi (z := (1 : Int32)) (pk_21 R4 (by decide)).2.symm ?_
  refine x_iconst (v := (1 : Int32)) C dL_pages_155 (by decide) ?_
  refine x_icmp_ne (tgt := 188) C dL_pages_156 (by decide) (fun w => absurd (by decide) w) (fun _ => ?_)
  refine x_aload_n C dL_pages_159 rfl 0 rfl ?_
  refine x_iconst (v := (0 : Int32)) C dL_pages_160 (by decide) ?_
  refine x_iconst (v := (1 : Int32)) C dL_pages_161 (by decide) ?_
  refine x_callVi (n := 2) C hq4 gFr_same (c_h_block l G q4 m4 h1 (0 : Int32) (1 : Int32) (pk_22 R4 (by decide)).1) (cwV 2 C.2.2.2.2.2.1 gL_pages_X2_block rfl rfl rfl (by decide +kernel) ⟨Nat.le_of_ble_eq_true rfl, Nat.le_of_ble_eq_true rfl⟩) rfl rfl rfl rfl (Nat.le_of_ble_eq_true rfl) dL_pages_162 (Nat.le_of_ble_eq_true rfl) (Nat.le_of_ble_eq_true rfl) ?_
  refine x_topi (z := (2 : Int32)) (pk_22 R4 (by decide)).2.symm ?_
  refine x_iconst (v := (2 : Int32)) C dL_pages_165 (by decide) ?_
  refine x_icmp_ne (tgt := 188) C dL_pages_166 (by decide) (fun w => absurd (by decide) w) (fun _ => ?_)
  refine x_aload_n C dL_pages_169 rfl 0 rfl ?_
  refine x_iconst (v := (2 : Int32)) C dL_pages_170 (by decide) ?_
  refine x_iconst (v := (0 : Int32)) C dL_pages_171 (by decide) ?_
  refine x_callVi (n := 2) C hq4 gFr_same (c_h_stream l G q4 m4 h1 (2 : Int32) (0 : Int32) (pk_23 R4 (by decide)).1) (cwV 2 C.2.2.2.2.2.1 gL_pages_X2_stream rfl rfl rfl (by decide +kernel) ⟨Nat.le_of_ble_eq_true rfl, Nat.le_of_ble_eq_true rfl⟩) rfl rfl rfl rfl (Nat.le_of_ble_eq_true rfl) dL_pages_172 (Nat.le_of_ble_eq_true rfl) (Nat.le_of_ble_eq_true rfl) ?_
  refine x_topi (z := (0 : Int32)) (pk_23 R4 (by decide)).2.symm ?_
  refine x_if_ne (tgt := 188) C dL_pages_175 (by decide) (fun w => absurd (by decide) w) (fun _ => ?_)
  refine x_aload_n C dL_pages_178 rfl 0 rfl ?_
  refine x_iconst (v := (2 : Int32)) C dL_pages_179 (by decide) ?_
  refine x_iconst (v := (2 : Int32)) C dL_pages_180 (by decide) ?_
  refine x_callVi (n := 2) C hq4 gFr_same (c_h_stream l G q4 m4 h1 (2 : Int32) (2 : Int32) (pk_24 R4 (by decide)).1) (cwV 2 C.2.2.2.2.2.1 gL_pages_X2_stream rfl rfl rfl (by decide +kernel) ⟨Nat.le_of_ble_eq_true rfl, Nat.le_of_ble_eq_true rfl⟩) rfl rfl rfl rfl (Nat.le_of_ble_eq_true rfl) dL_pages_181 (Nat.le_of_ble_eq_true rfl) (Nat.le_of_ble_eq_true rfl) ?_
  refine x_topi (z := (1 : Int32)) (pk_24 R4 (by decide)).2.symm ?_
  refine x_iconst (v := (1 : Int32)) C dL_pages_184 (by decide) ?_
  refine x_icmp_eq (tgt := 190) C dL_pages_185 (by decide) (fun _ => ?_) (fun w => absurd (by decide) w)
  refine x_aload_n C dL_pages_190 rfl 0 rfl ?_
  refine x_iconst (v := (0 : Int32)) C dL_pages_191 (by decide) ?_
  refine x_bipush (v := (8 : Int32)) C dL_pages_192 (by decide) ?_
  refine x_iconst (v := (0 : Int32)) C dL_pages_194 (by decide) ?_
  obtain ⟨y1, y2, y3⟩ := pk_26 R4 (by decide)
  refine x_callVpi (n := 3) (n4 := 4) C hq4 (c_h_writeRow l G q4 m4 h1 (0 : Int32) (8 : Int32) (0 : Int32) y1) (cwV 3 C.2.2.2.2.2.1 gL_pages_X2_writeRow rfl rfl rfl (by decide +kernel) ⟨Nat.le_of_ble_eq_true rfl, Nat.le_of_ble_eq_true rfl⟩) rfl rfl rfl rfl (Nat.le_of_ble_eq_true rfl) dL_pages_195 (Nat.le_of_ble_eq_true rfl) (Nat.le_of_ble_eq_true rfl) (fun q5 e5 hq5 => ?_)
  refine x_topi (z := (0 : Int32)) y2.symm ?_
  obtain ⟨m5, hm5⟩ : ∃ y : gM, y = (f_h_writeRow m4 (0 : Int32) (8 : Int32) (0 : Int32)).2 := ⟨_, rfl⟩
  rw [← hm5] at y3
  refine x_mu2 hm5 rfl ?_
  rw [pus_lt (by decide)] at y3
  have R5 : Rq 873 m5 (rwN tb_7) [rwN tb_0, rwN tb_6] := y3
  clear y1 y2 y3 hm5
  refine x_lve (lv' := [(0, .ref (q5 0))]) (by rw [e5 0 (by decide)]) ?_
  refine x_if_ne (tgt := 412) C dL_pages_198 (by decide) (fun w => absurd (by decide) w) (fun _ => ?_)
  refine x_aload_n C dL_pages_201 rfl 0 rfl ?_
  refine x_iconst (v := (1 : Int32)) C dL_pages_202 (by decide) ?_
  refine x_iconst (v := (0 : Int32)) C dL_pages_203 (by decide) ?_
  refine x_callVi (n := 2) C hq5 gFr_same (c_h_block l G q5 m5 h1 (1 : Int32) (0 : Int32) (pk_27 R5 (by decide)).1) (cwV 2 C.2.2.2.2.2.1 gL_pages_X2_block rfl rfl rfl (by decide +kernel) ⟨Nat.le_of_ble_eq_true rfl, Nat.le_of_ble_eq_true rfl⟩) rfl rfl rfl rfl (Nat.le_of_ble_eq_true rfl) dL_pages_204 (Nat.le_of_ble_eq_true rfl) (Nat.le_of_ble_eq_true rfl) ?_
  refine x_topi (z := (2 : Int32)) (pk_27 R5 (by decide)).2.symm ?_
  refine x_iconst (v := (2 : Int32)) C dL_pages_207 (by decide) ?_
  refine x_icmp_ne (tgt := 412) C dL_pages_208 (by decide) (fun w => absurd (by decide) w) (fun _ => ?_)
  refine x_aload_n C dL_pages_211 rfl 0 rfl ?_
  refine x_iconst (v := (1 : Int32)) C dL_pages_212 (by decide) ?_
  refine x_iconst (v := (1 : Int32)) C dL_pages_213 (by decide) ?_
  refine x_callVi (n := 2) C hq5 gFr_same (c_h_block l G q5 m5 h1 (1 : Int32) (1 : Int32) (pk_28 R5 (by decide)).1) (cwV 2 C.2.2.2.2.2.1 gL_pages_X2_block rfl rfl rfl (by decide +kernel) ⟨Nat.le_of_ble_eq_true rfl, Nat.le_of_ble_eq_true rfl⟩) rfl rfl rfl rfl (Nat.le_of_ble_eq_true rfl) dL_pages_214 (Nat.le_of_ble_eq_true rfl) (Nat.le_of_ble_eq_true rfl) ?_
  refine x_topi (z := (0 : Int32)) (pk_28 R5 (by decide)).2.symm ?_
  refine x_if_ne (tgt := 412) C dL_pages_217 (by decide) (fun w => absurd (by decide) w) (fun _ => ?_)
  refine x_aload_n C dL_pages_220 rfl 0 rfl ?_
  refine x_iconst (v := (1 : Int32)) C dL_pages_221 (by decide) ?_
  refine x_iconst (v := (2 : Int32)) C dL_pages_222 (by decide) ?_
  refine x_callVi (n := 2) C hq5 gFr_same (c_h_block l G q5 m5 h1 (1 : Int32) (2 : Int32) (pk_29 R5 (by decide)).1) (cwV 2 C.2.2.2.2.2.1 gL_pages_X2_block rfl rfl rfl (by decide +kernel) ⟨Nat.le_of_ble_eq_true rfl, Nat.le_of_ble_eq_true rfl⟩) rfl rfl rfl rfl (Nat.le_of_ble_eq_true rfl) dL_pages_223 (Nat.le_of_ble_eq_true rfl) (Nat.le_of_ble_eq_true rfl) ?_
  refine x_topi (z := (8 : Int32)) (pk_29 R5 (by decide)).2.symm ?_
  refine x_bipush (v := (8 : Int32)) C dL_pages_226 (by decide) ?_
  refine x_icmp_ne (tgt := 412) C dL_pages_228 (by decide) (fun w => absurd (by decide) w) (fun _ => ?_)
  refine x_aload_n C dL_pages_231 rfl 0 rfl ?_
  refine x_iconst (v := (1 : Int32)) C dL_pages_232 (by decide) ?_
  refine x_bipush (v := (6 : Int32)) C dL_pages_233 (by decide) ?_
  refine x_callVi (n := 2) C hq5 gFr_same (c_h_block l G q5 m5 h1 (1 : Int32) (6 : Int32) (pk_30 R5 (by decide)).1) (cwV 2 C.2.2.2.2.2.1 gL_pages_X2_block rfl rfl rfl (by decide +kernel) ⟨Nat.le_of_ble_eq_true rfl, Nat.le_of_ble_eq_true rfl⟩) rfl rfl rfl rfl (Nat.le_of_ble_eq_true rfl) dL_pages_235 (Nat.le_of_ble_eq_true rfl) (Nat.le_of_ble_eq_true rfl) ?_
  refine x_topi (z := (0 : Int32)) (pk_30 R5 (by decide)).2.symm ?_
  refine x_if_ne (tgt := 412) C dL_pages_238 (by decide) (fun w => absurd (by decide) w) (fun _ => ?_)
  refine x_aload_n C dL_pages_241 rfl 0 rfl ?_
  refine x_iconst (v := (0 : Int32)) C dL_pages_242 (by decide) ?_
  refine x_iconst (v := (2 : Int32)) C dL_pages_243 (by decide) ?_
  refine x_callVi (n := 2) C hq5 gFr_same (c_h_block l G q5 m5 h1 (0 : Int32) (2 : Int32) (pk_31 R5 (by decide)).1) (cwV 2 C.2.2.2.2.2.1 gL_pages_X2_block rfl rfl rfl (by decide +kernel) ⟨Nat.le_of_ble_eq_true rfl, Nat.le_of_ble_eq_true rfl⟩) rfl rfl rfl rfl (Nat.le_of_ble_eq_true rfl) dL_pages_244 (Nat.le_of_ble_eq_true rfl) (Nat.le_of_ble_eq_true rfl) ?_
  refine x_topi (z := (0 : Int32)) (pk_31 R5 (by decide)).2.symm ?_
  refine x_if_ne (tgt := 412) C dL_pages_247 (by decide) (fun w => absurd (by decide) w) (fun _ => ?_)
  refine x_aload_n C dL_pages_250 rfl 0 rfl ?_
  refine x_iconst (v := (0 : Int32)) C dL_pages_251 (by decide) ?_
  refine x_iconst (v := (3 : Int32)) C dL_pages_252 (by decide) ?_
  refine x_callVi (n := 2) C hq5 gFr_same (c_h_block l G q5 m5 h1 (0 : Int32) (3 : Int32) (pk_32 R5 (by decide)).1) (cwV 2 C.2.2.2.2.2.1 gL_pages_X2_block rfl rfl rfl (by decide +kernel) ⟨Nat.le_of_ble_eq_true rfl, Nat.le_of_ble_eq_true rfl⟩) rfl rfl rfl rfl (Nat.le_of_ble_eq_true rfl) dL_pages_253 (Nat.le_of_ble_eq_true rfl) (Nat.le_of_ble_eq_true rfl) ?_
  refine x_topi (z := (1 : Int32)) (pk_32 R5 (by decide)).2.symm ?_
  refine x_iconst (v := (1 : Int32)) C dL_pages_256 (by decide) ?_
  refine x_icmp_ne (tgt := 412) C dL_pages_257 (by decide) (fun w => absurd (by decide) w) (fun _ => ?_)
  refine x_aload_n C dL_pages_260 rfl 0 rfl ?_
  refine x_iconst (v := (0 : Int32)) C dL_pages_261 (by decide) ?_
  refine x_iconst (v := (4 : Int32)) C dL_pages_262 (by decide) ?_
  refine x_callVi (n := 2) C hq5 gFr_same (c_h_block l G q5 m5 h1 (0 : Int32) (4 : Int32) (pk_33 R5 (by decide)).1) (cwV 2 C.2.2.2.2.2.1 gL_pages_X2_block rfl rfl rfl (by decide +kernel) ⟨Nat.le_of_ble_eq_true rfl, Nat.le_of_ble_eq_true rfl⟩) rfl rfl rfl rfl (Nat.le_of_ble_eq_true rfl) dL_pages_263 (Nat.le_of_ble_eq_true rfl) (Nat.le_of_ble_eq_true rfl) ?_
  refine x_topi (z := (7 : Int32)) (pk_33 R5 (by decide)).2.symm ?_
  refine x_bipush (v := (7 : Int32)) C dL_pages_266 (by decide) ?_
  refine x_icmp_ne (tgt := 412) C dL_pages_268 (by decide) (fun w => absurd (by decide) w) (fun _ => ?_)
  refine x_aload_n C dL_pages_271 rfl 0 rfl ?_
  refine x_iconst (v := (0 : Int32)) C dL_pages_272 (by decide) ?_
  refine x_iconst (v := (0 : Int32)) C dL_pages_273 (by decide) ?_
  refine x_iconst (v := (0 : Int32)) C dL_pages_274 (by decide) ?_
  refine x_callVi (n := 3) C hq5 gFr_same (c_h_slot l G q5 m5 h1 (0 : Int32) (0 : Int32) (0 : Int32) (pk_34 R5 (by decide)).1) (cwV 3 C.2.2.2.2.2.1 gL_pages_X2_slot rfl rfl rfl (by decide +kernel) ⟨Nat.le_of_ble_eq_true rfl, Nat.le_of_ble_eq_true rfl⟩) rfl rfl rfl rfl (Nat.le_of_ble_eq_true rfl) dL_pages_275 (Nat.le_of_ble_eq_true rfl) (Nat.le_of_ble_eq_true rfl) ?_
  refine x_topi (z := (5 : Int32)) (pk_34 R5 (by decide)).2.symm ?_
  refine x_iconst (v := (5 : Int32)) C dL_pages_278 (by decide) ?_
  refine x_icmp_ne (tgt := 412) C dL_pages_279 (by decide) (fun w => absurd (by decide) w) (fun _ => ?_)
  refine x_aload_n C dL_pages_282 rfl 0 rfl ?_
  refine x_iconst (v := (0 : Int32)) C dL_pages_283 (by decide) ?_
  refine x_iconst (v := (0 : Int32)) C dL_pages_284 (by decide) ?_
  refine x_iconst (v := (1 : Int32)) C dL_pages_285 (by decide) ?_
  refine x_callVi (n := 3) C hq5 gFr_same (c_h_slot l G q5 m5 h1 (0 : Int32) (0 : Int32) (1 : Int32) (pk_35 R5 (by decide)).1) (cwV 3 C.2.2.2.2.2.1 gL_pages_X2_slot rfl rfl rfl (by decide +kernel) ⟨Nat.le_of_ble_eq_true rfl, Nat.le_of_ble_eq_true rfl⟩) rfl rfl rfl rfl (Nat.le_of_ble_eq_true rfl) dL_pages_286 (Nat.le_of_ble_eq_true rfl) (Nat.le_of_ble_eq_true rfl) ?_
  refine x_topi (z := (-1 : Int32)) (pk_35 R5 (by decide)).2.symm ?_
  refine x_iconst (v := (-1 : Int32)) C dL_pages_289 (by decide) ?_
  refine x_icmp_ne (tgt := 412) C dL_pages_290 (by decide) (fun w => absurd (by decide) w) (fun _ => ?_)
  refine x_aload_n C dL_pages_293 rfl 0 rfl ?_
  refine x_iconst (v := (1 : Int32)) C dL_pages_294 (by decide) ?_
  refine x_iconst (v := (5 : Int32)) C dL_pages_295 (by decide) ?_
  refine x_iconst (v := (1 : Int32)) C dL_pages_296 (by decide) ?_
  refine x_callVi (n := 3) C hq5 gFr_same (c_h_slot l G q5 m5 h1 (1 : Int32) (5 : Int32) (1 : Int32) (pk_36 R5 (by decide)).1) (cwV 3 C.2.2.2.2.2.1 gL_pages_X2_slot rfl rfl rfl (by decide +kernel) ⟨Nat.le_of_ble_eq_true rfl, Nat.le_of_ble_eq_true rfl⟩) rfl rfl rfl rfl (Nat.le_of_ble_eq_true rfl) dL_pages_297 (Nat.le_of_ble_eq_true rfl) (Nat.le_of_ble_eq_true rfl) ?_
  refine x_topi (z := (5 : Int32)) (pk_36 R5 (by decide)).2.symm ?_
  refine x_iconst (v := (5 : Int32)) C dL_pages_300 (by decide) ?_
  refine x_icmp_ne (tgt := 412) C dL_pages_301 (by decide) (fun w => absurd (by decide) w) (fun _ => ?_)
  refine x_aload_n C dL_pages_304 rfl 0 rfl ?_
  refine x_iconst (v := (0 : Int32)) C dL_pages_305 (by decide) ?_
  refine x_iconst (v := (0 : Int32)) C dL_pages_306 (by decide) ?_
  refine x_callVi (n := 2) C hq5 gFr_same (c_h_stream l G q5 m5 h1 (0 : Int32) (0 : Int32) (pk_37 R5 (by decide)).1) (cwV 2 C.2.2.2.2.2.1 gL_pages_X2_stream rfl rfl rfl (by decide +kernel) ⟨Nat.le_of_ble_eq_true rfl, Nat.le_of_ble_eq_true rfl⟩) rfl rfl rfl rfl (Nat.le_of_ble_eq_true rfl) dL_pages_307 (Nat.le_of_ble_eq_true rfl) (Nat.le_of_ble_eq_true rfl) ?_
  refine x_topi (z := (-1 : Int32)) (pk_37 R5 (by decide)).2.symm ?_
  refine x_iconst (v := (-1 : Int32)) C dL_pages_310 (by decide) ?_
  refine x_icmp_ne (tgt := 412) C dL_pages_311 (by decide) (fun w => absurd (by decide) w) (fun _ => ?_)
  refine x_aload_n C dL_pages_314 rfl 0 rfl ?_
  refine x_iconst (v := (0 : Int32)) C dL_pages_315 (by decide) ?_
  refine x_iconst (v := (1 : Int32)) C dL_pages_316 (by decide) ?_
  refine x_callVi (n := 2) C hq5 gFr_same (c_h_stream l G q5 m5 h1 (0 : Int32) (1 : Int32) (pk_38 R5 (by decide)).1) (cwV 2 C.2.2.2.2.2.1 gL_pages_X2_stream rfl rfl rfl (by decide +kernel) ⟨Nat.le_of_ble_eq_true rfl, Nat.le_of_ble_eq_true rfl⟩) rfl rfl rfl rfl (Nat.le_of_ble_eq_true rfl) dL_pages_317 (Nat.le_of_ble_eq_true rfl) (Nat.le_of_ble_eq_true rfl) ?_
  refine x_topi (z := (8 : Int32)) (pk_38 R5 (by decide)).2.symm ?_
  refine x_bipush (v := (8 : Int32)) C dL_pages_320 (by decide) ?_
  refine x_icmp_ne (tgt := 412) C dL_pages_322 (by decide) (fun w => absurd (by decide) w) (fun _ => ?_)
  refine x_aload_n C dL_pages_325 rfl 0 rfl ?_
  refine x_iconst (v := (2 : Int32)) C dL_pages_326 (by decide) ?_
  refine x_iconst (v := (1 : Int32)) C dL_pages_327 (by decide) ?_
  refine x_callVi (n := 2) C hq5 gFr_same (c_h_stream l G q5 m5 h1 (2 : Int32) (1 : Int32) (pk_39 R5 (by decide)).1) (cwV 2 C.2.2.2.2.2.1 gL_pages_X2_stream rfl rfl rfl (by decide +kernel) ⟨Nat.le_of_ble_eq_true rfl, Nat.le_of_ble_eq_true rfl⟩) rfl rfl rfl rfl (Nat.le_of_ble_eq_true rfl) dL_pages_328 (Nat.le_of_ble_eq_true rfl) (Nat.le_of_ble_eq_true rfl) ?_
  refine x_topi (z := (1 : Int32)) (pk_39 R5 (by decide)).2.symm ?_
  refine x_iconst (v := (1 : Int32)) C dL_pages_331 (by decide) ?_
  refine x_icmp_ne (tgt := 412) C dL_pages_332 (by decide) (fun w => absurd (by decide) w) (fun _ => ?_)
  refine x_aload_n C dL_pages_335 rfl 0 rfl ?_
  refine x_iconst (v := (2 : Int32)) C dL_pages_336 (by decide) ?_
  refine x_iconst (v := (2 : Int32)) C dL_pages_337 (by decide) ?_
  refine x_callVi (n := 2) C hq5 gFr_same (c_h_stream l G q5 m5 h1 (2 : Int32) (2 : Int32) (pk_40 R5 (by decide)).1) (cwV 2 C.2.2.2.2.2.1 gL_pages_X2_stream rfl rfl rfl (by decide +kernel) ⟨Nat.le_of_ble_eq_true rfl, Nat.le_of_ble_eq_true rfl⟩) rfl rfl rfl rfl (Nat.le_of_ble_eq_true rfl) dL_pages_338 (Nat.le_of_ble_eq_true rfl) (Nat.le_of_ble_eq_true rfl) ?_
  refine x_topi (z := (0 : Int32)) (pk_40 R5 (by decide)).2.symm ?_
  refine x_if_ne (tgt := 412) C dL_pages_341 (by decide) (fun w => absurd (by decide) w) (fun _ => ?_)
  refine x_aload_n C dL_pages_344 rfl 0 rfl ?_
  refine x_iconst (v := (0 : Int32)) C dL_pages_345 (by decide) ?_
  refine x_callVi (n := 1) C hq5 gFr_same (c_h_count l G q5 m5 h1 (0 : Int32) (pk_41 R5 (by decide)).1) (cwV 1 C.2.2.2.2.2.1 gL_pages_X2_count rfl rfl rfl (by decide +kernel) ⟨Nat.le_of_ble_eq_true rfl, Nat.le_of_ble_eq_true rfl⟩) rfl rfl rfl rfl (Nat.le_of_ble_eq_true rfl) dL_pages_346 (Nat.le_of_ble_eq_true rfl) (Nat.le_of_ble_eq_true rfl) ?_
  refine x_topi (z := (8 : Int32)) (pk_41 R5 (by decide)).2.symm ?_
  refine x_bipush (v := (8 : Int32)) C dL_pages_349 (by decide) ?_
  refine x_icmp_ne (tgt := 412) C dL_pages_351 (by decide) (fun w => absurd (by decide) w) (fun _ => ?_)
  refine x_aload_n C dL_pages_354 rfl 0 rfl ?_
  refine x_iconst (v := (1 : Int32)) C dL_pages_355 (by decide) ?_
  refine x_callVi (n := 1) C hq5 gFr_same (c_h_count l G q5 m5 h1 (1 : Int32) (pk_42 R5 (by decide)).1) (cwV 1 C.2.2.2.2.2.1 gL_pages_X2_count rfl rfl rfl (by decide +kernel) ⟨Nat.le_of_ble_eq_true rfl, Nat.le_of_ble_eq_true rfl⟩) rfl rfl rfl rfl (Nat.le_of_ble_eq_true rfl) dL_pages_356 (Nat.le_of_ble_eq_true rfl) (Nat.le_of_ble_eq_true rfl) ?_
  refine x_topi (z := (10 : Int32)) (pk_42 R5 (by decide)).2.symm ?_
  refine x_bipush (v := (10 : Int32)) C dL_pages_359 (by decide) ?_
  refine x_icmp_ne (tgt := 412) C dL_pages_361 (by decide) (fun w => absurd (by decide) w) (fun _ => ?_)
  refine x_aload_n C dL_pages_364 rfl 0 rfl ?_
  refine x_iconst (v := (2 : Int32)) C dL_pages_365 (by decide) ?_
  refine x_callVi (n := 1) C hq5 gFr_same (c_h_count l G q5 m5 h1 (2 : Int32) (pk_43 R5 (by decide)).1) (cwV 1 C.2.2.2.2.2.1 gL_pages_X2_count rfl rfl rfl (by decide +kernel) ⟨Nat.le_of_ble_eq_true rfl, Nat.le_of_ble_eq_true rfl⟩) rfl rfl rfl rfl (Nat.le_of_ble_eq_true rfl) dL_pages_366 (Nat.le_of_ble_eq_true rfl) (Nat.le_of_ble_eq_true rfl) ?_
  refine x_topi (z := (1 : Int32)) (pk_43 R5 (by decide)).2.symm ?_
  refine x_iconst (v := (1 : Int32)) C dL_pages_369 (by decide) ?_
  refine x_icmp_ne (tgt := 412) C dL_pages_370 (by decide) (fun w => absurd (by decide) w) (fun _ => ?_)
  refine x_aload_n C dL_pages_373 rfl 0 rfl ?_
  refine x_iconst (v := (3 : Int32)) C dL_pages_374 (by decide) ?_
  refine x_callVi (n := 1) C hq5 gFr_same (c_h_count l G q5 m5 h1 (3 : Int32) (pk_44 R5 (by decide)).1) (cwV 1 C.2.2.2.2.2.1 gL_pages_X2_count rfl rfl rfl (by decide +kernel) ⟨Nat.le_of_ble_eq_true rfl, Nat.le_of_ble_eq_true rfl⟩) rfl rfl rfl rfl (Nat.le_of_ble_eq_true rfl) dL_pages_375 (Nat.le_of_ble_eq_true rfl) (Nat.le_of_ble_eq_true rfl) ?_
  refine x_topi (z := (1 : Int32)) (pk_44 R5 (by decide)).2.symm ?_
  refine x_iconst (v := (1 : Int32)) C dL_pages_378 (by decide) ?_
  refine x_icmp_ne (tgt := 412) C dL_pages_379 (by decide) (fun w => absurd (by decide) w) (fun _ => ?_)
  refine x_aload_n C dL_pages_382 rfl 0 rfl ?_
  refine x_iconst (v := (4 : Int32)) C dL_pages_383 (by decide) ?_
  refine x_callVi (n := 1) C hq5 gFr_same (c_h_count l G q5 m5 h1 (4 : Int32) (pk_45 R5 (by decide)).1) (cwV 1 C.2.2.2.2.2.1 gL_pages_X2_count rfl rfl rfl (by decide +kernel) ⟨Nat.le_of_ble_eq_true rfl, Nat.le_of_ble_eq_true rfl⟩) rfl rfl rfl rfl (Nat.le_of_ble_eq_true rfl) dL_pages_384 (Nat.le_of_ble_eq_true rfl) (Nat.le_of_ble_eq_true rfl) ?_
  refine x_topi (z := (1 : Int32)) (pk_45 R5 (by decide)).2.symm ?_
  refine x_iconst (v := (1 : Int32)) C dL_pages_387 (by decide) ?_
  refine x_icmp_ne (tgt := 412) C dL_pages_388 (by decide) (fun w => absurd (by decide) w) (fun _ => ?_)
  refine x_aload_n C dL_pages_391 rfl 0 rfl ?_
  refine x_bipush (v := (6 : Int32)) C dL_pages_392 (by decide) ?_
  refine x_callVi (n := 1) C hq5 gFr_same (c_h_count l G q5 m5 h1 (6 : Int32) (pk_46 R5 (by decide)).1) (cwV 1 C.2.2.2.2.2.1 gL_pages_X2_count rfl rfl rfl (by decide +kernel) ⟨Nat.le_of_ble_eq_true rfl, Nat.le_of_ble_eq_true rfl⟩) rfl rfl rfl rfl (Nat.le_of_ble_eq_true rfl) dL_pages_394 (Nat.le_of_ble_eq_true rfl) (Nat.le_of_ble_eq_true rfl) ?_
  refine x_topi (z := (9 : Int32)) (pk_46 R5 (by decide)).2.symm ?_
  refine x_bipush (v := (9 : Int32)) C dL_pages_397 (by decide) ?_
  refine x_icmp_ne (tgt := 412) C dL_pages_399 (by decide) (fun w => absurd (by decide) w) (fun _ => ?_)
  refine x_aload_n C dL_pages_402 rfl 0 rfl ?_
  refine x_bipush (v := (10 : Int32)) C dL_pages_403 (by decide) ?_
  refine x_callVi (n := 1) C hq5 gFr_same (c_h_count l G q5 m5 h1 (10 : Int32) (pk_47 R5 (by decide)).1) (cwV 1 C.2.2.2.2.2.1 gL_pages_X2_count rfl rfl rfl (by decide +kernel) ⟨Nat.le_of_ble_eq_true rfl, Nat.le_of_ble_eq_true rfl⟩) rfl rfl rfl rfl (Nat.le_of_ble_eq_true rfl) dL_pages_405 (Nat.le_of_ble_eq_true rfl) (Nat.le_of_ble_eq_true rfl) ?_
  refine x_topi (z := (-1 : Int32)) (pk_47 R5 (by decide)).2.symm ?_
  refine x_iconst (v := (-1 : Int32)) C dL_pages_408 (by decide) ?_
  refine x_icmp_eq (tgt := 414) C dL_pages_409 (by decide) (fun _ => ?_) (fun w => absurd (by decide) w)
  refine x_aload_n C dL_pages_414 rfl 0 rfl ?_
  refine x_iconst (v := (3 : Int32)) C dL_pages_415 (by decide) ?_
  refine x_iconst (v := (1 : Int32)) C dL_pages_416 (by decide) ?_
  obtain ⟨y1, y2, y3⟩ := pk_49 R5 (by decide)
  refine x_callVpi (n := 2) (n4 := 4) C hq5 (c_h_write l G q5 m5 h1 (3 : Int32) (1 : Int32) y1) (cwV 2 C.2.2.2.2.2.1 gL_pages_X2_write rfl rfl rfl (by decide +kernel) ⟨Nat.le_of_ble_eq_true rfl, Nat.le_of_ble_eq_true rfl⟩) rfl rfl rfl rfl (Nat.le_of_ble_eq_true rfl) dL_pages_417 (Nat.le_of_ble_eq_true rfl) (Nat.le_of_ble_eq_true rfl) (fun q6 e6 hq6 => ?_)
  refine x_topi (z := (0 : Int32)) y2.symm ?_
  obtain ⟨m6, hm6⟩ : ∃ y : gM, y = (f_h_write m5 (3 : Int32) (1 : Int32)).2 := ⟨_, rfl⟩
  rw [← hm6] at y3
  refine x_mu2 hm6 rfl ?_
  rw [pus_lt (by decide)] at y3
  have R6 : Rq 970 m6 (rwN tb_8) [rwN tb_0, rwN tb_6, rwN tb_7] := y3
  clear y1 y2 y3 hm6
  refine x_lve (lv' := [(0, .ref (q6 0))]) (by rw [e6 0 (by decide)]) ?_
  refine x_if_ne (tgt := 661) C dL_pages_420 (by decide) (fun w => absurd (by decide) w) (fun _ => ?_)
  refine x_aload_n C dL_pages_423 rfl 0 rfl ?_
  refine x_iconst (v := (3 : Int32)) C dL_pages_424 (by decide) ?_
  refine x_iconst (v := (0 : Int32)) C dL_pages_425 (by decide) ?_
  refine x_callVi (n := 2) C hq6 gFr_same (c_h_page l G q6 m6 h1 (3 : Int32) (0 : Int32) (pk_50 R6 (by decide)).1) (cwV 2 C.2.2.2.2.2.1 gL_pages_X2_page rfl rfl rfl (by decide +kernel) ⟨Nat.le_of_ble_eq_true rfl, Nat.le_of_ble_eq_true rfl⟩) rfl rfl rfl rfl (Nat.le_of_ble_eq_true rfl) dL_pages_426 (Nat.le_of_ble_eq_true rfl) (Nat.le_of_ble_eq_true rfl) ?_
  refine x_topi (z := (2 : Int32)) (pk_50 R6 (by decide)).2.symm ?_
  refine x_iconst (v := (2 : Int32)) C dL_pages_429 (by decide) ?_
  refine x_icmp_ne (tgt := 661) C dL_pages_430 (by decide) (fun w => absurd (by decide) w) (fun _ => ?_)
  refine x_aload_n C dL_pages_433 rfl 0 rfl ?_
  refine x_bipush (v := (10 : Int32)) C dL_pages_434 (by decide) ?_
  refine x_callVi (n := 1) C hq6 gFr_same (c_h_count l G q6 m6 h1 (10 : Int32) (pk_51 R6 (by decide)).1) (cwV 1 C.2.2.2.2.2.1 gL_pages_X2_count rfl rfl rfl (by decide +kernel) ⟨Nat.le_of_ble_eq_true rfl, Nat.le_of_ble_eq_true rfl⟩) rfl rfl rfl rfl (Nat.le_of_ble_eq_true rfl) dL_pages_436 (Nat.le_of_ble_eq_true rfl) (Nat.le_of_ble_eq_true rfl) ?_
  refine x_topi (z := (1 : Int32)) (pk_51 R6 (by decide)).2.symm ?_
  refine x_iconst (v := (1 : Int32)) C dL_pages_439 (by decide) ?_
  refine x_icmp_ne (tgt := 661) C dL_pages_440 (by decide) (fun w => absurd (by decide) w) (fun _ => ?_)
  refine x_aload_n C dL_pages_443 rfl 0 rfl ?_
  refine x_iconst (v := (4 : Int32)) C dL_pages_444 (by decide) ?_
  refine x_iconst (v := (2 : Int32)) C dL_pages_445 (by decide) ?_
  refine x_iconst (v := (0 : Int32)) C dL_pages_446 (by decide) ?_
  refine x_iconst (v := (0 : Int32)) C dL_pages_447 (by decide) ?_
  refine x_callZw0 (n := 5) (shc := shH) (rest := []) (cells' := 136) (slots' := 3221) C (List.append_nil _).symm hq6 wf_shH rfl hX (cT_collect_IS l hl9 G q6 m6 h1 (2 : Int32) (0 : Int32) (0 : Int32) (pk_52 R6).1 (pk_52 R6).2) (vx_cwSW 5 C.2.2.2.2.2.1 gL_pages_L_told rfl rfl rfl (by decide +kernel) ⟨Nat.le_of_ble_eq_true rfl, Nat.le_of_ble_eq_true rfl⟩) rfl rfl (Nat.le_of_ble_eq_true rfl) dL_pages_448 rfl rfl (Nat.le_of_ble_eq_true rfl) (Nat.le_of_ble_eq_true rfl) ?_
  refine x_bipush (v := (-13 : Int32)) C dL_pages_451 (by decide) ?_
  refine x_icmp_ne (tgt := 661) C dL_pages_453 (by decide) (fun w => absurd (by decide) w) (fun _ => ?_)
  refine x_aload_n C dL_pages_456 rfl 0 rfl ?_
  refine x_iconst (v := (1 : Int32)) C dL_pages_457 (by decide) ?_
  obtain ⟨y1, y2, y3⟩ := pk_53 R6 (by decide)
  refine x_callVpi (n := 1) (n4 := 4) C hq6 (c_h_collect l G q6 m6 h1 (1 : Int32) y1) (cwV 1 C.2.2.2.2.2.1 gL_pages_X2_collect rfl rfl rfl (by decide +kernel) ⟨Nat.le_of_ble_eq_true rfl, Nat.le_of_ble_eq_true rfl⟩) rfl rfl rfl rfl (Nat.le_of_ble_eq_true rfl) dL_pages_458 (Nat.le_of_ble_eq_true rfl) (Nat.le_of_ble_eq_true rfl) (fun q7 e7 hq7 => ?_)
  refine x_topi (z := (7 : Int32)) y2.symm ?_
  obtain ⟨m7, hm7⟩ : ∃ y : gM, y = (f_h_collect m6 (1 : Int32)).2 := ⟨_, rfl⟩
  rw [← hm7] at y3
  refine x_mu2 hm7 rfl ?_
  rw [pus_lt (by decide)] at y3
  have R7 : Rq 1067 m7 (rwN tb_9) [rwN tb_0, rwN tb_6, rwN tb_7, rwN tb_8] := y3
  clear y1 y2 y3 hm7
  refine x_lve (lv' := [(0, .ref (q7 0))]) (by rw [e7 0 (by decide)]) ?_
  refine x_bipush (v := (7 : Int32)) C dL_pages_461 (by decide) ?_
  refine x_icmp_ne (tgt := 661) C dL_pages_463 (by decide) (fun w => absurd (by decide) w) (fun _ => ?_)
  refine x_aload_n C dL_pages_466 rfl 0 rfl ?_
  refine x_iconst (v := (1 : Int32)) C dL_pages_467 (by decide) ?_
  refine x_iconst (v := (0 : Int32)) C dL_pages_468 (by decide) ?_
  refine x_callVi (n := 2) C hq7 gFr_same (c_h_block l G q7 m7 h1 (1 : Int32) (0 : Int32) (pk_54 R7 (by decide)).1) (cwV 2 C.2.2.2.2.2.1 gL_pages_X2_block rfl rfl rfl (by decide +kernel) ⟨Nat.le_of_ble_eq_true rfl, Nat.le_of_ble_eq_true rfl⟩) rfl rfl rfl rfl (Nat.le_of_ble_eq_true rfl) dL_pages_469 (Nat.le_of_ble_eq_true rfl) (Nat.le_of_ble_eq_true rfl) ?_
  refine x_topi (z := (0 : Int32)) (pk_54 R7 (by decide)).2.symm ?_
  refine x_if_ne (tgt := 661) C dL_pages_472 (by decide) (fun w => absurd (by decide) w) (fun _ => ?_)
  refine x_aload_n C dL_pages_475 rfl 0 rfl ?_
  refine x_iconst (v := (1 : Int32)) C dL_pages_476 (by decide) ?_
  refine x_iconst (v := (1 : Int32)) C dL_pages_477 (by decide) ?_
  refine x_callVi (n := 2) C hq7 gFr_same (c_h_block l G q7 m7 h1 (1 : Int32) (1 : Int32) (pk_55 R7 (by decide)).1) (cwV 2 C.2.2.2.2.2.1 gL_pages_X2_block rfl rfl rfl (by decide +kernel) ⟨Nat.le_of_ble_eq_true rfl, Nat.le_of_ble_eq_true rfl⟩) rfl rfl rfl rfl (Nat.le_of_ble_eq_true rfl) dL_pages_478 (Nat.le_of_ble_eq_true rfl) (Nat.le_of_ble_eq_true rfl) ?_
  refine x_topi (z := (-1 : Int32)) (pk_55 R7 (by decide)).2.symm ?_
  refine x_iconst (v := (-1 : Int32)) C dL_pages_481 (by decide) ?_
  refine x_icmp_ne (tgt := 661) C dL_pages_482 (by decide) (fun w => absurd (by decide) w) (fun _ => ?_)
  refine x_aload_n C dL_pages_485 rfl 0 rfl ?_
  refine x_iconst (v := (1 : Int32)) C dL_pages_486 (by decide) ?_
  refine x_iconst (v := (5 : Int32)) C dL_pages_487 (by decide) ?_
  refine x_callVi (n := 2) C hq7 gFr_same (c_h_block l G q7 m7 h1 (1 : Int32) (5 : Int32) (pk_56 R7 (by decide)).1) (cwV 2 C.2.2.2.2.2.1 gL_pages_X2_block rfl rfl rfl (by decide +kernel) ⟨Nat.le_of_ble_eq_true rfl, Nat.le_of_ble_eq_true rfl⟩) rfl rfl rfl rfl (Nat.le_of_ble_eq_true rfl) dL_pages_488 (Nat.le_of_ble_eq_true rfl) (Nat.le_of_ble_eq_true rfl) ?_
  refine x_topi (z := (1 : Int32)) (pk_56 R7 (by decide)).2.symm ?_
  refine x_iconst (v := (1 : Int32)) C dL_pages_491 (by decide) ?_
  refine x_icmp_ne (tgt := 661) C dL_pages_492 (by decide) (fun w => absurd (by decide) w) (fun _ => ?_)
  refine x_aload_n C dL_pages_495 rfl 0 rfl ?_
  refine x_iconst (v := (1 : Int32)) C dL_pages_496 (by decide) ?_
  refine x_iconst (v := (4 : Int32)) C dL_pages_497 (by decide) ?_
  refine x_callVi (n := 2) C hq7 gFr_same (c_h_block l G q7 m7 h1 (1 : Int32) (4 : Int32) (pk_57 R7 (by decide)).1) (cwV 2 C.2.2.2.2.2.1 gL_pages_X2_block rfl rfl rfl (by decide +kernel) ⟨Nat.le_of_ble_eq_true rfl, Nat.le_of_ble_eq_true rfl⟩) rfl rfl rfl rfl (Nat.le_of_ble_eq_true rfl) dL_pages_498 (Nat.le_of_ble_eq_true rfl) (Nat.le_of_ble_eq_true rfl) ?_
  refine x_topi (z := (8 : Int32)) (pk_57 R7 (by decide)).2.symm ?_
  refine x_bipush (v := (8 : Int32)) C dL_pages_501 (by decide) ?_
  refine x_icmp_ne (tgt := 661) C dL_pages_503 (by decide) (fun w => absurd (by decide) w) (fun _ => ?_)
  refine x_aload_n C dL_pages_506 rfl 0 rfl ?_
  refine x_bipush (v := (7 : Int32)) C dL_pages_507 (by decide) ?_
  refine x_callVi (n := 1) C hq7 gFr_same (c_h_count l G q7 m7 h1 (7 : Int32) (pk_58 R7 (by decide)).1) (cwV 1 C.2.2.2.2.2.1 gL_pages_X2_count rfl rfl rfl (by decide +kernel) ⟨Nat.le_of_ble_eq_true rfl, Nat.le_of_ble_eq_true rfl⟩) rfl rfl rfl rfl (Nat.le_of_ble_eq_true rfl) dL_pages_509 (Nat.le_of_ble_eq_true rfl) (Nat.le_of_ble_eq_true rfl) ?_
  refine x_topi (z := (7 : Int32)) (pk_58 R7 (by decide)).2.symm ?_
  refine x_bipush (v := (7 : Int32)) C dL_pages_512 (by decide) ?_
  refine x_icmp_ne (tgt := 661) C dL_pages_514 (by decide) (fun w => absurd (by decide) w) (fun _ => ?_)
  refine x_aload_n C dL_pages_517 rfl 0 rfl ?_
  refine x_bipush (v := (8 : Int32)) C dL_pages_518 (by decide) ?_
  refine x_callVi (n := 1) C hq7 gFr_same (c_h_count l G q7 m7 h1 (8 : Int32) (pk_59 R7 (by decide)).1) (cwV 1 C.2.2.2.2.2.1 gL_pages_X2_count rfl rfl rfl (by decide +kernel) ⟨Nat.le_of_ble_eq_true rfl, Nat.le_of_ble_eq_true rfl⟩) rfl rfl rfl rfl (Nat.le_of_ble_eq_true rfl) dL_pages_520 (Nat.le_of_ble_eq_true rfl) (Nat.le_of_ble_eq_true rfl) ?_
  refine x_topi (z := (1 : Int32)) (pk_59 R7 (by decide)).2.symm ?_
  refine x_iconst (v := (1 : Int32)) C dL_pages_523 (by decide) ?_
  refine x_icmp_ne (tgt := 661) C dL_pages_524 (by decide) (fun w => absurd (by decide) w) (fun _ => ?_)
  refine x_aload_n C dL_pages_527 rfl 0 rfl ?_
  refine x_bipush (v := (9 : Int32)) C dL_pages_528 (by decide) ?_
  refine x_callVi (n := 1) C hq7 gFr_same (c_h_count l G q7 m7 h1 (9 : Int32) (pk_60 R7 (by decide)).1) (cwV 1 C.2.2.2.2.2.1 gL_pages_X2_count rfl rfl rfl (by decide +kernel) ⟨Nat.le_of_ble_eq_true rfl, Nat.le_of_ble_eq_true rfl⟩) rfl rfl rfl rfl (Nat.le_of_ble_eq_true rfl) dL_pages_530 (Nat.le_of_ble_eq_true rfl) (Nat.le_of_ble_eq_true rfl) ?_
  refine x_topi (z := (1 : Int32)) (pk_60 R7 (by decide)).2.symm ?_
  refine x_iconst (v := (1 : Int32)) C dL_pages_533 (by decide) ?_
  refine x_icmp_ne (tgt := 661) C dL_pages_534 (by decide) (fun w => absurd (by decide) w) (fun _ => ?_)
  refine x_aload_n C dL_pages_537 rfl 0 rfl ?_
  refine x_iconst (v := (0 : Int32)) C dL_pages_538 (by decide) ?_
  refine x_iconst (v := (0 : Int32)) C dL_pages_539 (by decide) ?_
  refine x_callVi (n := 2) C hq7 gFr_same (c_h_page l G q7 m7 h1 (0 : Int32) (0 : Int32) (pk_61 R7 (by decide)).1) (cwV 2 C.2.2.2.2.2.1 gL_pages_X2_page rfl rfl rfl (by decide +kernel) ⟨Nat.le_of_ble_eq_true rfl, Nat.le_of_ble_eq_true rfl⟩) rfl rfl rfl rfl (Nat.le_of_ble_eq_true rfl) dL_pages_540 (Nat.le_of_ble_eq_true rfl) (Nat.le_of_ble_eq_true rfl) ?_
  refine x_topi (z := (3 : Int32)) (pk_61 R7 (by decide)).2.symm ?_
  refine x_iconst (v := (3 : Int32)) C dL_pages_543 (by decide) ?_
  refine x_icmp_ne (tgt := 661) C dL_pages_544 (by decide) (fun w => absurd (by decide) w) (fun _ => ?_)
  refine x_aload_n C dL_pages_547 rfl 0 rfl ?_
  refine x_iconst (v := (4 : Int32)) C dL_pages_548 (by decide) ?_
  refine x_iconst (v := (1 : Int32)) C dL_pages_549 (by decide) ?_
  refine x_callVi (n := 2) C hq7 gFr_same (c_h_page l G q7 m7 h1 (4 : Int32) (1 : Int32) (pk_62 R7 (by decide)).1) (cwV 2 C.2.2.2.2.2.1 gL_pages_X2_page rfl rfl rfl (by decide +kernel) ⟨Nat.le_of_ble_eq_true rfl, Nat.le_of_ble_eq_true rfl⟩) rfl rfl rfl rfl (Nat.le_of_ble_eq_true rfl) dL_pages_550 (Nat.le_of_ble_eq_true rfl) (Nat.le_of_ble_eq_true rfl) ?_
  refine x_topi (z := (3 : Int32)) (pk_62 R7 (by decide)).2.symm ?_
  refine x_iconst (v := (3 : Int32)) C dL_pages_553 (by decide) ?_
  refine x_icmp_ne (tgt := 661) C dL_pages_554 (by decide) (fun w => absurd (by decide) w) (fun _ => ?_)
  refine x_aload_n C dL_pages_557 rfl 0 rfl ?_
  refine x_iconst (v := (0 : Int32)) C dL_pages_558 (by decide) ?_
  refine x_iconst (v := (4 : Int32)) C dL_pages_559 (by decide) ?_
  refine x_callVi (n := 2) C hq7 gFr_same (c_h_page l G q7 m7 h1 (0 : Int32) (4 : Int32) (pk_63 R7 (by decide)).1) (cwV 2 C.2.2.2.2.2.1 gL_pages_X2_page rfl rfl rfl (by decide +kernel) ⟨Nat.le_of_ble_eq_true rfl, Nat.le_of_ble_eq_true rfl⟩) rfl rfl rfl rfl (Nat.le_of_ble_eq_true rfl) dL_pages_560 (Nat.le_of_ble_eq_true rfl) (Nat.le_of_ble_eq_true rfl) ?_
  refine x_topi (z := (1 : Int32)) (pk_63 R7 (by decide)).2.symm ?_
  refine x_iconst (v := (1 : Int32)) C dL_pages_563 (by decide) ?_
  refine x_icmp_ne (tgt := 661) C dL_pages_564 (by decide) (fun w => absurd (by decide) w) (fun _ => ?_)
  refine x_aload_n C dL_pages_567 rfl 0 rfl ?_
  refine x_iconst (v := (0 : Int32)) C dL_pages_568 (by decide) ?_
  refine x_iconst (v := (5 : Int32)) C dL_pages_569 (by decide) ?_
  refine x_callVi (n := 2) C hq7 gFr_same (c_h_page l G q7 m7 h1 (0 : Int32) (5 : Int32) (pk_64 R7 (by decide)).1) (cwV 2 C.2.2.2.2.2.1 gL_pages_X2_page rfl rfl rfl (by decide +kernel) ⟨Nat.le_of_ble_eq_true rfl, Nat.le_of_ble_eq_true rfl⟩) rfl rfl rfl rfl (Nat.le_of_ble_eq_true rfl) dL_pages_570 (Nat.le_of_ble_eq_true rfl) (Nat.le_of_ble_eq_true rfl) ?_
  refine x_topi (z := (1 : Int32)) (pk_64 R7 (by decide)).2.symm ?_
  refine x_iconst (v := (1 : Int32)) C dL_pages_573 (by decide) ?_
  refine x_icmp_ne (tgt := 661) C dL_pages_574 (by decide) (fun w => absurd (by decide) w) (fun _ => ?_)
  refine x_aload_n C dL_pages_577 rfl 0 rfl ?_
  refine x_iconst (v := (3 : Int32)) C dL_pages_578 (by decide) ?_
  refine x_iconst (v := (4 : Int32)) C dL_pages_579 (by decide) ?_
  refine x_callVi (n := 2) C hq7 gFr_same (c_h_page l G q7 m7 h1 (3 : Int32) (4 : Int32) (pk_65 R7 (by decide)).1) (cwV 2 C.2.2.2.2.2.1 gL_pages_X2_page rfl rfl rfl (by decide +kernel) ⟨Nat.le_of_ble_eq_true rfl, Nat.le_of_ble_eq_true rfl⟩) rfl rfl rfl rfl (Nat.le_of_ble_eq_true rfl) dL_pages_580 (Nat.le_of_ble_eq_true rfl) (Nat.le_of_ble_eq_true rfl) ?_
  refine x_topi (z := (0 : Int32)) (pk_65 R7 (by decide)).2.symm ?_
  refine x_if_ne (tgt := 661) C dL_pages_583 (by decide) (fun w => absurd (by decide) w) (fun _ => ?_)
  refine x_aload_n C dL_pages_586 rfl 0 rfl ?_
  refine x_iconst (v := (0 : Int32)) C dL_pages_587 (by decide) ?_
  refine x_iconst (v := (3 : Int32)) C dL_pages_588 (by decide) ?_
  refine x_callVi (n := 2) C hq7 gFr_same (c_h_stream l G q7 m7 h1 (0 : Int32) (3 : Int32) (pk_66 R7 (by decide)).1) (cwV 2 C.2.2.2.2.2.1 gL_pages_X2_stream rfl rfl rfl (by decide +kernel) ⟨Nat.le_of_ble_eq_true rfl, Nat.le_of_ble_eq_true rfl⟩) rfl rfl rfl rfl (Nat.le_of_ble_eq_true rfl) dL_pages_589 (Nat.le_of_ble_eq_true rfl) (Nat.le_of_ble_eq_true rfl) ?_
  refine x_topi (z := (7 : Int32)) (pk_66 R7 (by decide)).2.symm ?_
  refine x_bipush (v := (7 : Int32)) C dL_pages_592 (by decide) ?_
  refine x_icmp_ne (tgt := 661) C dL_pages_594 (by decide) (fun w => absurd (by decide) w) (fun _ => ?_)
  refine x_aload_n C dL_pages_597 rfl 0 rfl ?_
  refine x_iconst (v := (0 : Int32)) C dL_pages_598 (by decide) ?_
  refine x_iconst (v := (4 : Int32)) C dL_pages_599 (by decide) ?_
  refine x_callVi (n := 2) C hq7 gFr_same (c_h_stream l G q7 m7 h1 (0 : Int32) (4 : Int32) (pk_67 R7 (by decide)).1) (cwV 2 C.2.2.2.2.2.1 gL_pages_X2_stream rfl rfl rfl (by decide +kernel) ⟨Nat.le_of_ble_eq_true rfl, Nat.le_of_ble_eq_true rfl⟩) rfl rfl rfl rfl (Nat.le_of_ble_eq_true rfl) dL_pages_600 (Nat.le_of_ble_eq_true rfl) (Nat.le_of_ble_eq_true rfl) ?_
  refine x_topi (z := (187 : Int32)) (pk_67 R7 (by decide)).2.symm ?_
  refine x_sipush (v := (187 : Int32)) C dL_pages_603 (by decide) ?_
  refine x_icmp_ne (tgt := 661) C dL_pages_606 (by decide) (fun w => absurd (by decide) w) (fun _ => ?_)
  refine x_aload_n C dL_pages_609 rfl 0 rfl ?_
  refine x_iconst (v := (4 : Int32)) C dL_pages_610 (by decide) ?_
  refine x_iconst (v := (0 : Int32)) C dL_pages_611 (by decide) ?_
  refine x_callVi (n := 2) C hq7 gFr_same (c_h_stream l G q7 m7 h1 (4 : Int32) (0 : Int32) (pk_68 R7 (by decide)).1) (cwV 2 C.2.2.2.2.2.1 gL_pages_X2_stream rfl rfl rfl (by decide +kernel) ⟨Nat.le_of_ble_eq_true rfl, Nat.le_of_ble_eq_true rfl⟩) rfl rfl rfl rfl (Nat.le_of_ble_eq_true rfl) dL_pages_612 (Nat.le_of_ble_eq_true rfl) (Nat.le_of_ble_eq_true rfl) ?_
  refine x_topi (z := (3 : Int32)) (pk_68 R7 (by decide)).2.symm ?_
  refine x_iconst (v := (3 : Int32)) C dL_pages_615 (by decide) ?_
  refine x_icmp_ne (tgt := 661) C dL_pages_616 (by decide) (fun w => absurd (by decide) w) (fun _ => ?_)
  refine x_aload_n C dL_pages_619 rfl 0 rfl ?_
  refine x_iconst (v := (4 : Int32)) C dL_pages_620 (by decide) ?_
  refine x_iconst (v := (1 : Int32)) C dL_pages_621 (by decide) ?_
  refine x_callVi (n := 2) C hq7 gFr_same (c_h_stream l G q7 m7 h1 (4 : Int32) (1 : Int32) (pk_69 R7 (by decide)).1) (cwV 2 C.2.2.2.2.2.1 gL_pages_X2_stream rfl rfl rfl (by decide +kernel) ⟨Nat.le_of_ble_eq_true rfl, Nat.le_of_ble_eq_true rfl⟩) rfl rfl rfl rfl (Nat.le_of_ble_eq_true rfl) dL_pages_622 (Nat.le_of_ble_eq_true rfl) (Nat.le_of_ble_eq_true rfl) ?_
  refine x_topi (z := (7 : Int32)) (pk_69 R7 (by decide)).2.symm ?_
  refine x_bipush (v := (7 : Int32)) C dL_pages_625 (by decide) ?_
  refine x_icmp_ne (tgt := 661) C dL_pages_627 (by decide) (fun w => absurd (by decide) w) (fun _ => ?_)
  refine x_aload_n C dL_pages_630 rfl 0 rfl ?_
  refine x_iconst (v := (4 : Int32)) C dL_pages_631 (by decide) ?_
  refine x_iconst (v := (4 : Int32)) C dL_pages_632 (by decide) ?_
  refine x_callVi (n := 2) C hq7 gFr_same (c_h_stream l G q7 m7 h1 (4 : Int32) (4 : Int32) (pk_70 R7 (by decide)).1) (cwV 2 C.2.2.2.2.2.1 gL_pages_X2_stream rfl rfl rfl (by decide +kernel) ⟨Nat.le_of_ble_eq_true rfl, Nat.le_of_ble_eq_true rfl⟩) rfl rfl rfl rfl (Nat.le_of_ble_eq_true rfl) dL_pages_633 (Nat.le_of_ble_eq_true rfl) (Nat.le_of_ble_eq_true rfl) ?_
  refine x_topi (z := (100 : Int32)) (pk_70 R7 (by decide)).2.symm ?_
  refine x_bipush (v := (100 : Int32)) C dL_pages_636 (by decide) ?_
  refine x_icmp_ne (tgt := 661) C dL_pages_638 (by decide) (fun w => absurd (by decide) w) (fun _ => ?_)
  refine x_aload_n C dL_pages_641 rfl 0 rfl ?_
  refine x_iconst (v := (4 : Int32)) C dL_pages_642 (by decide) ?_
  refine x_iconst (v := (2 : Int32)) C dL_pages_643 (by decide) ?_
  refine x_callVi (n := 2) C hq7 gFr_same (c_h_stream l G q7 m7 h1 (4 : Int32) (2 : Int32) (pk_71 R7 (by decide)).1) (cwV 2 C.2.2.2.2.2.1 gL_pages_X2_stream rfl rfl rfl (by decide +kernel) ⟨Nat.le_of_ble_eq_true rfl, Nat.le_of_ble_eq_true rfl⟩) rfl rfl rfl rfl (Nat.le_of_ble_eq_true rfl) dL_pages_644 (Nat.le_of_ble_eq_true rfl) (Nat.le_of_ble_eq_true rfl) ?_
  refine x_topi (z := (0 : Int32)) (pk_71 R7 (by decide)).2.symm ?_
  refine x_if_ne (tgt := 661) C dL_pages_647 (by decide) (fun w => absurd (by decide) w) (fun _ => ?_)
  refine x_aload_n C dL_pages_650 rfl 0 rfl ?_
  refine x_callVd (n := 0) C hq7 gFr_same (c_h_amplification l G q7 m7 h1 (amplQ R7 (by decide)).1) (cwV 0 C.2.2.2.2.2.1 gL_pages_X2_amplification rfl rfl rfl (by decide +kernel) ⟨Nat.le_of_ble_eq_true rfl, Nat.le_of_ble_eq_true rfl⟩) rfl rfl rfl rfl (Nat.le_of_ble_eq_true rfl) dL_pages_651 (Nat.le_of_ble_eq_true rfl) (Nat.le_of_ble_eq_true rfl) ?_
  refine x_topd (z := ef_r_amplified (m0 (rwN tb_9))) ((amplQ R7 (by decide)).2.trans (ee_f_r_amplified _)).symm ?_
  refine x_ldc2d (v := 4610334938539176755) C kc_L_pages_105 dL_pages_654 ?_
  refine x_dcmp C dL_pages_657 ?_
  refine x_topi (z := (0 : Int32)) pk_72 ?_
  refine x_if_eq (tgt := 663) C dL_pages_658 (by decide) (fun _ => ?_) (fun w => absurd (by decide) w)
  refine x_aload_n C dL_pages_663 rfl 0 rfl ?_
  refine x_iconst (v := (0 : Int32)) C dL_pages_664 (by decide) ?_
  refine x_iconst (v := (0 : Int32)) C dL_pages_665 (by decide) ?_
  refine x_iconst (v := (0 : Int32)) C dL_pages_666 (by decide) ?_
  obtain ⟨y1, y2, y3⟩ := pk_74 R7 (by decide)
  refine x_callVi (n := 3) C hq7 gFr_same (c_h_ifWritten l G q7 m7 h1 (0 : Int32) (0 : Int32) (0 : Int32) y1) (cwV 3 C.2.2.2.2.2.1 gL_pages_X2_ifWritten rfl rfl rfl (by decide +kernel) ⟨Nat.le_of_ble_eq_true rfl, Nat.le_of_ble_eq_true rfl⟩) rfl rfl rfl rfl (Nat.le_of_ble_eq_true rfl) dL_pages_667 (Nat.le_of_ble_eq_true rfl) (Nat.le_of_ble_eq_true rfl) ?_
  refine x_topi (z := (0 : Int32)) y2.symm ?_
  obtain ⟨m8, hm8⟩ : ∃ y : gM, y = (f_h_ifWritten m7 (0 : Int32) (0 : Int32) (0 : Int32)).2 := ⟨_, rfl⟩
  rw [← hm8] at y3
  refine x_mu2 hm8 rfl ?_
  have R8 : Rq 1067 m8 (rwN tb_9) [rwN tb_0, rwN tb_6, rwN tb_7, rwN tb_8] := y3
  clear y1 y2 y3 hm8
  refine x_if_ne (tgt := 931) C dL_pages_670 (by decide) (fun w => absurd (by decide) w) (fun _ => ?_)
  refine x_aload_n C dL_pages_673 rfl 0 rfl ?_
  refine x_iconst (v := (0 : Int32)) C dL_pages_674 (by decide) ?_
  refine x_iconst (v := (0 : Int32)) C dL_pages_675 (by decide) ?_
  refine x_iconst (v := (1 : Int32)) C dL_pages_676 (by decide) ?_
  obtain ⟨y1, y2, y3⟩ := pk_75 R8 (by decide)
  refine x_callVi (n := 3) C hq7 gFr_same (c_h_ifWritten l G q7 m8 h1 (0 : Int32) (0 : Int32) (1 : Int32) y1) (cwV 3 C.2.2.2.2.2.1 gL_pages_X2_ifWritten rfl rfl rfl (by decide +kernel) ⟨Nat.le_of_ble_eq_true rfl, Nat.le_of_ble_eq_true rfl⟩) rfl rfl rfl rfl (Nat.le_of_ble_eq_true rfl) dL_pages_677 (Nat.le_of_ble_eq_true rfl) (Nat.le_of_ble_eq_true rfl) ?_
  refine x_topi (z := (4 : Int32)) y2.symm ?_
  obtain ⟨m9, hm9⟩ : ∃ y : gM, y = (f_h_ifWritten m8 (0 : Int32) (0 : Int32) (1 : Int32)).2 := ⟨_, rfl⟩
  rw [← hm9] at y3
  refine x_mu2 hm9 rfl ?_
  have R9 : Rq 1067 m9 (rwN tb_9) [rwN tb_0, rwN tb_6, rwN tb_7, rwN tb_8] := y3
  clear y1 y2 y3 hm9
  refine x_iconst (v := (4 : Int32)) C dL_pages_680 (by decide) ?_
  refine x_icmp_ne (tgt := 931) C dL_pages_681 (by decide) (fun w => absurd (by decide) w) (fun _ => ?_)
  refine x_aload_n C dL_pages_684 rfl 0 rfl ?_
  refine x_iconst (v := (0 : Int32)) C dL_pages_685 (by decide) ?_
  refine x_iconst (v := (0 : Int32)) C dL_pages_686 (by decide) ?_
  refine x_iconst (v := (2 : Int32)) C dL_pages_687 (by decide) ?_
  obtain ⟨y1, y2, y3⟩ := pk_76 R9 (by decide)
  refine x_callVi (n := 3) C hq7 gFr_same (c_h_ifWritten l G q7 m9 h1 (0 : Int32) (0 : Int32) (2 : Int32) y1) (cwV 3 C.2.2.2.2.2.1 gL_pages_X2_ifWritten rfl rfl rfl (by decide +kernel) ⟨Nat.le_of_ble_eq_true rfl, Nat.le_of_ble_eq_true rfl⟩) rfl rfl rfl rfl (Nat.le_of_ble_eq_true rfl) dL_pages_688 (Nat.le_of_ble_eq_true rfl) (Nat.le_of_ble_eq_true rfl) ?_
  refine x_topi (z := (0 : Int32)) y2.symm ?_
  obtain ⟨m10, hm10⟩ : ∃ y : gM, y = (f_h_ifWritten m9 (0 : Int32) (0 : Int32) (2 : Int32)).2 := ⟨_, rfl⟩
  rw [← hm10] at y3
  refine x_mu2 hm10 rfl ?_
  have R10 : Rq 1067 m10 (rwN tb_9) [rwN tb_0, rwN tb_6, rwN tb_7, rwN tb_8] := y3
  clear y1 y2 y3 hm10
  refine x_if_ne (tgt := 931) C dL_pages_691 (by decide) (fun w => absurd (by decide) w) (fun _ => ?_)
  refine x_aload_n C dL_pages_694 rfl 0 rfl ?_
  refine x_iconst (v := (5 : Int32)) C dL_pages_695 (by decide) ?_
  refine x_iconst (v := (3 : Int32)) C dL_pages_696 (by decide) ?_
  obtain ⟨y1, y2, y3⟩ := pk_77 R10 (by decide)
  refine x_callVpi (n := 2) (n4 := 4) C hq7 (c_h_hint l G q7 m10 h1 (5 : Int32) (3 : Int32) y1) (cwV 2 C.2.2.2.2.2.1 gL_pages_X2_hint rfl rfl rfl (by decide +kernel) ⟨Nat.le_of_ble_eq_true rfl, Nat.le_of_ble_eq_true rfl⟩) rfl rfl rfl rfl (Nat.le_of_ble_eq_true rfl) dL_pages_697 (Nat.le_of_ble_eq_true rfl) (Nat.le_of_ble_eq_true rfl) (fun q11 e11 hq11 => ?_)
  refine x_topi (z := (0 : Int32)) y2.symm ?_
  obtain ⟨m11, hm11⟩ : ∃ y : gM, y = (f_h_hint m10 (5 : Int32) (3 : Int32)).2 := ⟨_, rfl⟩
  rw [← hm11] at y3
  refine x_mu2 hm11 rfl ?_
  rw [pus_lt (by decide)] at y3
  have R11 : Rq 1067 m11 (rwN tb_11) [rwN tb_0, rwN tb_6, rwN tb_7, rwN tb_8, rwN tb_9] := y3
  clear y1 y2 y3 hm11
  refine x_lve (lv' := [(0, .ref (q11 0))]) (by rw [e11 0 (by decide)]) ?_
  refine x_if_ne (tgt := 931) C dL_pages_700 (by decide) (fun w => absurd (by decide) w) (fun _ => ?_)
  refine x_aload_n C dL_pages_703 rfl 0 rfl ?_
  refine x_iconst (v := (3 : Int32)) C dL_pages_704 (by decide) ?_
  refine x_iconst (v := (2 : Int32)) C dL_pages_705 (by decide) ?_
  refine x_callVi (n := 2) C hq11 gFr_same (c_h_stream l G q11 m11 h1 (3 : Int32) (2 : Int32) (pk_78 R11 (by decide)).1) (cwV 2 C.2.2.2.2.2.1 gL_pages_X2_stream rfl rfl rfl (by decide +kernel) ⟨Nat.le_of_ble_eq_true rfl, Nat.le_of_ble_eq_true rfl⟩) rfl rfl rfl rfl (Nat.le_of_ble_eq_true rfl) dL_pages_706 (Nat.le_of_ble_eq_true rfl) (Nat.le_of_ble_eq_true rfl) ?_
  refine x_topi (z := (1 : Int32)) (pk_78 R11 (by decide)).2.symm ?_
  refine x_iconst (v := (1 : Int32)) C dL_pages_709 (by decide) ?_
  refine x_icmp_ne (tgt := 931) C dL_pages_710 (by decide) (fun w => absurd (by decide) w) (fun _ => ?_)
  refine x_aload_n C dL_pages_713 rfl 0 rfl ?_
  refine x_iconst (v := (0 : Int32)) C dL_pages_714 (by decide) ?_
  refine x_iconst (v := (2 : Int32)) C dL_pages_715 (by decide) ?_
  refine x_callVi (n := 2) C hq11 gFr_same (c_h_stream l G q11 m11 h1 (0 : Int32) (2 : Int32) (pk_79 R11 (by decide)).1) (cwV 2 C.2.2.2.2.2.1 gL_pages_X2_stream rfl rfl rfl (by decide +kernel) ⟨Nat.le_of_ble_eq_true rfl, Nat.le_of_ble_eq_true rfl⟩) rfl rfl rfl rfl (Nat.le_of_ble_eq_true rfl) dL_pages_716 (Nat.le_of_ble_eq_true rfl) (Nat.le_of_ble_eq_true rfl) ?_
  refine x_topi (z := (6 : Int32)) (pk_79 R11 (by decide)).2.symm ?_
  refine x_bipush (v := (6 : Int32)) C dL_pages_719 (by decide) ?_
  refine x_icmp_ne (tgt := 931) C dL_pages_721 (by decide) (fun w => absurd (by decide) w) (fun _ => ?_)
  refine x_aload_n C dL_pages_724 rfl 0 rfl ?_
  refine x_iconst (v := (3 : Int32)) C dL_pages_725 (by decide) ?_
  refine x_bipush (v := (7 : Int32)) C dL_pages_726 (by decide) ?_
  refine x_callVi (n := 2) C hq11 gFr_same (c_h_block l G q11 m11 h1 (3 : Int32) (7 : Int32) (pk_80 R11 (by decide)).1) (cwV 2 C.2.2.2.2.2.1 gL_pages_X2_block rfl rfl rfl (by decide +kernel) ⟨Nat.le_of_ble_eq_true rfl, Nat.le_of_ble_eq_true rfl⟩) rfl rfl rfl rfl (Nat.le_of_ble_eq_true rfl) dL_pages_728 (Nat.le_of_ble_eq_true rfl) (Nat.le_of_ble_eq_true rfl) ?_
  refine x_topi (z := (2 : Int32)) (pk_80 R11 (by decide)).2.symm ?_
  refine x_iconst (v := (2 : Int32)) C dL_pages_731 (by decide) ?_
  refine x_icmp_ne (tgt := 931) C dL_pages_732 (by decide) (fun w => absurd (by decide) w) (fun _ => ?_)
  refine x_aload_n C dL_pages_735 rfl 0 rfl ?_
  refine x_callZ0 (n := 1) (shc := shH) (rest := []) (cells' := 196) (slots' := 3581) C (List.append_nil _).symm hq11 wf_shH rfl hX (c_l_refused l hl9 G q11 m11 h1 (seenQ R11 (by decide)).1 (count11Q R11).1) (va_cwS 1 C.2.2.2.2.2.1 gL_pages_L_refused rfl rfl rfl (by decide +kernel) ⟨Nat.le_of_ble_eq_true rfl, Nat.le_of_ble_eq_true rfl⟩) rfl rfl (Nat.le_of_ble_eq_true rfl) dL_pages_736 rfl rfl (Nat.le_of_ble_eq_true rfl) (Nat.le_of_ble_eq_true rfl) ?_
  refine x_if_eq (tgt := 931) C dL_pages_739 (by decide) (fun w => absurd w (by decide)) (fun _ => ?_)
  refine x_aload_n C dL_pages_742 rfl 0 rfl ?_
  refine x_iconst (v := (5 : Int32)) C dL_pages_743 (by decide) ?_
  obtain ⟨y1, y2, y3⟩ := pk_81 R11 (by decide)
  refine x_callVpi (n := 1) (n4 := 4) C hq11 (c_h_trim l G q11 m11 h1 (5 : Int32) y1) (cwV 1 C.2.2.2.2.2.1 gL_pages_X2_trim rfl rfl rfl (by decide +kernel) ⟨Nat.le_of_ble_eq_true rfl, Nat.le_of_ble_eq_true rfl⟩) rfl rfl rfl rfl (Nat.le_of_ble_eq_true rfl) dL_pages_744 (Nat.le_of_ble_eq_true rfl) (Nat.le_of_ble_eq_true rfl) (fun q12 e12 hq12 => ?_)
  refine x_topi (z := (3 : Int32)) y2.symm ?_
  obtain ⟨m12, hm12⟩ : ∃ y : gM, y = (f_h_trim m11 (5 : Int32)).2 := ⟨_, rfl⟩
  rw [← hm12] at y3
  refine x_mu2 hm12 rfl ?_
  rw [pus_lt (by decide)] at y3
  have R12 : Rq 1067 m12 (rwN tb_12) [rwN tb_0, rwN tb_6, rwN tb_7, rwN tb_8, rwN tb_9, rwN tb_11] := y3
  clear y1 y2 y3 hm12
  refine x_lve (lv' := [(0, .ref (q12 0))]) (by rw [e12 0 (by decide)]) ?_
  refine x_iconst (v := (3 : Int32)) C dL_pages_747 (by decide) ?_
  refine x_icmp_ne (tgt := 931) C dL_pages_748 (by decide) (fun w => absurd (by decide) w) (fun _ => ?_)
  refine x_aload_n C dL_pages_751 rfl 0 rfl ?_
  refine x_iconst (v := (5 : Int32)) C dL_pages_752 (by decide) ?_
  refine x_iconst (v := (0 : Int32)) C dL_pages_753 (by decide) ?_
  refine x_callVi (n := 2) C hq12 gFr_same (c_h_page l G q12 m12 h1 (5 : Int32) (0 : Int32) (pk_82 R12 (by decide)).1) (cwV 2 C.2.2.2.2.2.1 gL_pages_X2_page rfl rfl rfl (by decide +kernel) ⟨Nat.le_of_ble_eq_true rfl, Nat.le_of_ble_eq_true rfl⟩) rfl rfl rfl rfl (Nat.le_of_ble_eq_true rfl) dL_pages_754 (Nat.le_of_ble_eq_true rfl) (Nat.le_of_ble_eq_true rfl) ?_
  refine x_topi (z := (-1 : Int32)) (pk_82 R12 (by decide)).2.symm ?_
  refine x_iconst (v := (-1 : Int32)) C dL_pages_757 (by decide) ?_
  refine x_icmp_ne (tgt := 931) C dL_pages_758 (by decide) (fun w => absurd (by decide) w) (fun _ => ?_)
  refine x_aload_n C dL_pages_761 rfl 0 rfl ?_
  refine x_iconst (v := (5 : Int32)) C dL_pages_762 (by decide) ?_
  refine x_iconst (v := (2 : Int32)) C dL_pages_763 (by decide) ?_
  refine x_callVi (n := 2) C hq12 gFr_same (c_h_page l G q12 m12 h1 (5 : Int32) (2 : Int32) (pk_83 R12 (by decide)).1) (cwV 2 C.2.2.2.2.2.1 gL_pages_X2_page rfl rfl rfl (by decide +kernel) ⟨Nat.le_of_ble_eq_true rfl, Nat.le_of_ble_eq_true rfl⟩) rfl rfl rfl rfl (Nat.le_of_ble_eq_true rfl) dL_pages_764 (Nat.le_of_ble_eq_true rfl) (Nat.le_of_ble_eq_true rfl) ?_
  refine x_topi (z := (-1 : Int32)) (pk_83 R12 (by decide)).2.symm ?_
  refine x_iconst (v := (-1 : Int32)) C dL_pages_767 (by decide) ?_
  refine x_icmp_ne (tgt := 931) C dL_pages_768 (by decide) (fun w => absurd (by decide) w) (fun _ => ?_)
  refine x_aload_n C dL_pages_771 rfl 0 rfl ?_
  refine x_iconst (v := (5 : Int32)) C dL_pages_772 (by decide) ?_
  refine x_iconst (v := (3 : Int32)) C dL_pages_773 (by decide) ?_
  refine x_callVi (n := 2) C hq12 gFr_same (c_h_page l G q12 m12 h1 (5 : Int32) (3 : Int32) (pk_84 R12 (by decide)).1) (cwV 2 C.2.2.2.2.2.1 gL_pages_X2_page rfl rfl rfl (by decide +kernel) ⟨Nat.le_of_ble_eq_true rfl, Nat.le_of_ble_eq_true rfl⟩) rfl rfl rfl rfl (Nat.le_of_ble_eq_true rfl) dL_pages_774 (Nat.le_of_ble_eq_true rfl) (Nat.le_of_ble_eq_true rfl) ?_
  refine x_topi (z := (2 : Int32)) (pk_84 R12 (by decide)).2.symm ?_
  refine x_iconst (v := (2 : Int32)) C dL_pages_777 (by decide) ?_
  refine x_icmp_ne (tgt := 931) C dL_pages_778 (by decide) (fun w => absurd (by decide) w) (fun _ => ?_)
  refine x_aload_n C dL_pages_781 rfl 0 rfl ?_
  refine x_iconst (v := (5 : Int32)) C dL_pages_782 (by decide) ?_
  refine x_iconst (v := (4 : Int32)) C dL_pages_783 (by decide) ?_
  refine x_callVi (n := 2) C hq12 gFr_same (c_h_page l G q12 m12 h1 (5 : Int32) (4 : Int32) (pk_85 R12 (by decide)).1) (cwV 2 C.2.2.2.2.2.1 gL_pages_X2_page rfl rfl rfl (by decide +kernel) ⟨Nat.le_of_ble_eq_true rfl, Nat.le_of_ble_eq_true rfl⟩) rfl rfl rfl rfl (Nat.le_of_ble_eq_true rfl) dL_pages_784 (Nat.le_of_ble_eq_true rfl) (Nat.le_of_ble_eq_true rfl) ?_
  refine x_topi (z := (1 : Int32)) (pk_85 R12 (by decide)).2.symm ?_
  refine x_iconst (v := (1 : Int32)) C dL_pages_787 (by decide) ?_
  refine x_icmp_ne (tgt := 931) C dL_pages_788 (by decide) (fun w => absurd (by decide) w) (fun _ => ?_)
  refine x_aload_n C dL_pages_791 rfl 0 rfl ?_
  refine x_iconst (v := (5 : Int32)) C dL_pages_792 (by decide) ?_
  refine x_iconst (v := (5 : Int32)) C dL_pages_793 (by decide) ?_
  refine x_callVi (n := 2) C hq12 gFr_same (c_h_page l G q12 m12 h1 (5 : Int32) (5 : Int32) (pk_86 R12 (by decide)).1) (cwV 2 C.2.2.2.2.2.1 gL_pages_X2_page rfl rfl rfl (by decide +kernel) ⟨Nat.le_of_ble_eq_true rfl, Nat.le_of_ble_eq_true rfl⟩) rfl rfl rfl rfl (Nat.le_of_ble_eq_true rfl) dL_pages_794 (Nat.le_of_ble_eq_true rfl) (Nat.le_of_ble_eq_true rfl) ?_
  refine x_topi (z := (0 : Int32)) (pk_86 R12 (by decide)).2.symm ?_
  refine x_if_ne (tgt := 931) C dL_pages_797 (by decide) (fun w => absurd (by decide) w) (fun _ => ?_)
  refine x_aload_n C dL_pages_800 rfl 0 rfl ?_
  refine x_iconst (v := (5 : Int32)) C dL_pages_801 (by decide) ?_
  obtain ⟨y1, y2, y3⟩ := pk_87 R12 (by decide)
  refine x_callVpi (n := 1) (n4 := 4) C hq12 (c_h_trim l G q12 m12 h1 (5 : Int32) y1) (cwV 1 C.2.2.2.2.2.1 gL_pages_X2_trim rfl rfl rfl (by decide +kernel) ⟨Nat.le_of_ble_eq_true rfl, Nat.le_of_ble_eq_true rfl⟩) rfl rfl rfl rfl (Nat.le_of_ble_eq_true rfl) dL_pages_802 (Nat.le_of_ble_eq_true rfl) (Nat.le_of_ble_eq_true rfl) (fun q13 e13 hq13 => ?_)
  refine x_topi (z := (-1 : Int32)) y2.symm ?_
  obtain ⟨m13, hm13⟩ : ∃ y : gM, y = (f_h_trim m12 (5 : Int32)).2 := ⟨_, rfl⟩
  rw [← hm13] at y3
  refine x_mu2 hm13 rfl ?_
  rw [pus_6 rfl] at y3
  have R13 : Rq 1067 m13 (rwN tb_12) [rwN tb_6, rwN tb_7, rwN tb_8, rwN tb_9, rwN tb_11, rwN tb_12] := y3
  clear y1 y2 y3 hm13
  refine x_lve (lv' := [(0, .ref (q13 0))]) (by rw [e13 0 (by decide)]) ?_
  refine x_iconst (v := (-1 : Int32)) C dL_pages_805 (by decide) ?_
  refine x_icmp_ne (tgt := 931) C dL_pages_806 (by decide) (fun w => absurd (by decide) w) (fun _ => ?_)
  refine x_aload_n C dL_pages_809 rfl 0 rfl ?_
  refine x_iconst (v := (3 : Int32)) C dL_pages_810 (by decide) ?_
  refine x_iconst (v := (5 : Int32)) C dL_pages_811 (by decide) ?_
  refine x_iconst (v := (1 : Int32)) C dL_pages_812 (by decide) ?_
  refine x_iconst (v := (0 : Int32)) C dL_pages_813 (by decide) ?_
  refine x_callZw0 (n := 5) (shc := shH) (rest := []) (cells' := 197) (slots' := 3587) C (List.append_nil _).symm hq13 wf_shH rfl hX (cT_hint_IS l hl9 G q13 m13 h1 (5 : Int32) (1 : Int32) (0 : Int32) (pk_88 R13).1 (pk_88 R13).2) (vx_cwSW 5 C.2.2.2.2.2.1 gL_pages_L_told rfl rfl rfl (by decide +kernel) ⟨Nat.le_of_ble_eq_true rfl, Nat.le_of_ble_eq_true rfl⟩) rfl rfl (Nat.le_of_ble_eq_true rfl) dL_pages_814 rfl rfl (Nat.le_of_ble_eq_true rfl) (Nat.le_of_ble_eq_true rfl) ?_
  refine x_bipush (v := (-13 : Int32)) C dL_pages_817 (by decide) ?_
  refine x_icmp_ne (tgt := 931) C dL_pages_819 (by decide) (fun w => absurd (by decide) w) (fun _ => ?_)
  refine x_aload_n C dL_pages_822 rfl 0 rfl ?_
  refine x_bipush (v := (12 : Int32)) C dL_pages_823 (by decide) ?_
  obtain ⟨y1, y2, y3⟩ := pk_89 R13 (by decide)
  refine x_callVpi (n := 1) (n4 := 4) C hq13 (c_h_tidy l G q13 m13 h1 (12 : Int32) y1) (cwV 1 C.2.2.2.2.2.1 gL_pages_X2_tidy rfl rfl rfl (by decide +kernel) ⟨Nat.le_of_ble_eq_true rfl, Nat.le_of_ble_eq_true rfl⟩) rfl rfl rfl rfl (Nat.le_of_ble_eq_true rfl) dL_pages_825 (Nat.le_of_ble_eq_true rfl) (Nat.le_of_ble_eq_true rfl) (fun q14 e14 hq14 => ?_)
  refine x_topi (z := (0 : Int32)) y2.symm ?_
  obtain ⟨m14, hm14⟩ : ∃ y : gM, y = (f_h_tidy m13 (12 : Int32)).2 := ⟨_, rfl⟩
  rw [← hm14] at y3
  refine x_mu2 hm14 rfl ?_
  rw [pus_6 rfl] at y3
  have R14 : Rq 1164 m14 (rwN tb_12) [rwN tb_7, rwN tb_8, rwN tb_9, rwN tb_11, rwN tb_12, rwN tb_12] := y3
  clear y1 y2 y3 hm14
  refine x_lve (lv' := [(0, .ref (q14 0))]) (by rw [e14 0 (by decide)]) ?_
  refine x_if_ne (tgt := 931) C dL_pages_828 (by decide) (fun w => absurd (by decide) w) (fun _ => ?_)
  refine x_aload_n C dL_pages_831 rfl 0 rfl ?_
  refine x_bipush (v := (11 : Int32)) C dL_pages_832 (by decide) ?_
  refine x_callVi (n := 1) C hq14 gFr_same (c_h_count l G q14 m14 h1 (11 : Int32) (count11Q R14).1) (cwV 1 C.2.2.2.2.2.1 gL_pages_X2_count rfl rfl rfl (by decide +kernel) ⟨Nat.le_of_ble_eq_true rfl, Nat.le_of_ble_eq_true rfl⟩) rfl rfl rfl rfl (Nat.le_of_ble_eq_true rfl) dL_pages_834 (Nat.le_of_ble_eq_true rfl) (Nat.le_of_ble_eq_true rfl) ?_
  refine x_topi (z := (6 : Int32)) (count11Q R14).2.symm ?_
  refine x_bipush (v := (6 : Int32)) C dL_pages_837 (by decide) ?_
  refine x_icmp_ne (tgt := 931) C dL_pages_839 (by decide) (fun w => absurd (by decide) w) (fun _ => ?_)
  refine x_aload_n C dL_pages_842 rfl 0 rfl ?_
  refine x_iconst (v := (3 : Int32)) C dL_pages_843 (by decide) ?_
  refine x_bipush (v := (7 : Int32)) C dL_pages_844 (by decide) ?_
  refine x_callVi (n := 2) C hq14 gFr_same (c_h_block l G q14 m14 h1 (3 : Int32) (7 : Int32) (pk_90 R14 (by decide)).1) (cwV 2 C.2.2.2.2.2.1 gL_pages_X2_block rfl rfl rfl (by decide +kernel) ⟨Nat.le_of_ble_eq_true rfl, Nat.le_of_ble_eq_true rfl⟩) rfl rfl rfl rfl (Nat.le_of_ble_eq_true rfl) dL_pages_846 (Nat.le_of_ble_eq_true rfl) (Nat.le_of_ble_eq_true rfl) ?_
  refine x_topi (z := (1 : Int32)) (pk_90 R14 (by decide)).2.symm ?_
  refine x_iconst (v := (1 : Int32)) C dL_pages_849 (by decide) ?_
  refine x_icmp_ne (tgt := 931) C dL_pages_850 (by decide) (fun w => absurd (by decide) w) (fun _ => ?_)
  refine x_aload_n C dL_pages_853 rfl 0 rfl ?_
  obtain ⟨y1, y2, y3, -, -⟩ := undoQ (rs := [rwN tb_7, rwN tb_8, rwN tb_9, rwN tb_11, rwN tb_12]) (f := rwN tb_12) R14
  refine x_callVpi (n := 0) (n4 := 4) C hq14 (c_h_undo l G q14 m14 h1 y1) (cwV 0 C.2.2.2.2.2.1 gL_pages_X2_undo rfl rfl rfl (by decide +kernel) ⟨Nat.le_of_ble_eq_true rfl, Nat.le_of_ble_eq_true rfl⟩) rfl rfl rfl rfl (Nat.le_of_ble_eq_true rfl) dL_pages_854 (Nat.le_of_ble_eq_true rfl) (Nat.le_of_ble_eq_true rfl) (fun q15 e15 hq15 => ?_)
  refine x_topi (z := (5 : Int32)) y2.symm ?_
  obtain ⟨m15, hm15⟩ : ∃ y : gM, y = (f_h_undo m14).2 := ⟨_, rfl⟩
  rw [← hm15] at y3
  refine x_mu2 hm15 rfl ?_
  have R15 : Rq 1164 m15 (rwN tb_12) [rwN tb_7, rwN tb_8, rwN tb_9, rwN tb_11, rwN tb_12] := y3
  clear y1 y2 y3 hm15
  refine x_lve (lv' := [(0, .ref (q15 0))]) (by rw [e15 0 (by decide)]) ?_
  refine x_iconst (v := (5 : Int32)) C dL_pages_857 (by decide) ?_
  refine x_icmp_ne (tgt := 931) C dL_pages_858 (by decide) (fun w => absurd (by decide) w) (fun _ => ?_)
  refine x_aload_n C dL_pages_861 rfl 0 rfl ?_
  obtain ⟨y1, y2, y3, -, -⟩ := undoQ (rs := [rwN tb_7, rwN tb_8, rwN tb_9, rwN tb_11]) (f := rwN tb_12) R15
  refine x_callVpi (n := 0) (n4 := 4) C hq15 (c_h_undo l G q15 m15 h1 y1) (cwV 0 C.2.2.2.2.2.1 gL_pages_X2_undo rfl rfl rfl (by decide +kernel) ⟨Nat.le_of_ble_eq_true rfl, Nat.le_of_ble_eq_true rfl⟩) rfl rfl rfl rfl (Nat.le_of_ble_eq_true rfl) dL_pages_862 (Nat.le_of_ble_eq_true rfl) (Nat.le_of_ble_eq_true rfl) (fun q16 e16 hq16 => ?_)
  refine x_topi (z := (4 : Int32)) y2.symm ?_
  obtain ⟨m16, hm16⟩ : ∃ y : gM, y = (f_h_undo m15).2 := ⟨_, rfl⟩
  rw [← hm16] at y3
  refine x_mu2 hm16 rfl ?_
  have R16 : Rq 1164 m16 (rwN tb_12) [rwN tb_7, rwN tb_8, rwN tb_9, rwN tb_11] := y3
  clear y1 y2 y3 hm16
  refine x_lve (lv' := [(0, .ref (q16 0))]) (by rw [e16 0 (by decide)]) ?_
  refine x_iconst (v := (4 : Int32)) C dL_pages_865 (by decide) ?_
  refine x_icmp_ne (tgt := 931) C dL_pages_866 (by decide) (fun w => absurd (by decide) w) (fun _ => ?_)
  refine x_aload_n C dL_pages_869 rfl 0 rfl ?_
  obtain ⟨y1, y2, y3, -, -⟩ := undoQ (rs := [rwN tb_7, rwN tb_8, rwN tb_9]) (f := rwN tb_11) R16
  refine x_callVpi (n := 0) (n4 := 4) C hq16 (c_h_undo l G q16 m16 h1 y1) (cwV 0 C.2.2.2.2.2.1 gL_pages_X2_undo rfl rfl rfl (by decide +kernel) ⟨Nat.le_of_ble_eq_true rfl, Nat.le_of_ble_eq_true rfl⟩) rfl rfl rfl rfl (Nat.le_of_ble_eq_true rfl) dL_pages_870 (Nat.le_of_ble_eq_true rfl) (Nat.le_of_ble_eq_true rfl) (fun q17 e17 hq17 => ?_)
  refine x_topi (z := (3 : Int32)) y2.symm ?_
  obtain ⟨m17, hm17⟩ : ∃ y : gM, y = (f_h_undo m16).2 := ⟨_, rfl⟩
  rw [← hm17] at y3
  refine x_mu2 hm17 rfl ?_
  have R17 : Rq 1164 m17 (rwN tb_11) [rwN tb_7, rwN tb_8, rwN tb_9] := y3
  clear y1 y2 y3 hm17
  refine x_lve (lv' := [(0, .ref (q17 0))]) (by rw [e17 0 (by decide)]) ?_
  refine x_iconst (v := (3 : Int32)) C dL_pages_873 (by decide) ?_
  refine x_icmp_ne (tgt := 931) C dL_pages_874 (by decide) (fun w => absurd (by decide) w) (fun _ => ?_)
  refine x_aload_n C dL_pages_877 rfl 0 rfl ?_
  refine x_iconst (v := (5 : Int32)) C dL_pages_878 (by decide) ?_
  refine x_iconst (v := (2 : Int32)) C dL_pages_879 (by decide) ?_
  refine x_callVi (n := 2) C hq17 gFr_same (c_h_page l G q17 m17 h1 (5 : Int32) (2 : Int32) (pk_91 R17 (by decide)).1) (cwV 2 C.2.2.2.2.2.1 gL_pages_X2_page rfl rfl rfl (by decide +kernel) ⟨Nat.le_of_ble_eq_true rfl, Nat.le_of_ble_eq_true rfl⟩) rfl rfl rfl rfl (Nat.le_of_ble_eq_true rfl) dL_pages_880 (Nat.le_of_ble_eq_true rfl) (Nat.le_of_ble_eq_true rfl) ?_
  refine x_topi (z := (3 : Int32)) (pk_91 R17 (by decide)).2.symm ?_
  refine x_iconst (v := (3 : Int32)) C dL_pages_883 (by decide) ?_
  refine x_icmp_ne (tgt := 931) C dL_pages_884 (by decide) (fun w => absurd (by decide) w) (fun _ => ?_)
  refine x_aload_n C dL_pages_887 rfl 0 rfl ?_
  obtain ⟨y1, y2, y3, -, -⟩ := undoQ (rs := [rwN tb_7, rwN tb_8]) (f := rwN tb_9) R17
  refine x_callVpi (n := 0) (n4 := 4) C hq17 (c_h_undo l G q17 m17 h1 y1) (cwV 0 C.2.2.2.2.2.1 gL_pages_X2_undo rfl rfl rfl (by decide +kernel) ⟨Nat.le_of_ble_eq_true rfl, Nat.le_of_ble_eq_true rfl⟩) rfl rfl rfl rfl (Nat.le_of_ble_eq_true rfl) dL_pages_888 (Nat.le_of_ble_eq_true rfl) (Nat.le_of_ble_eq_true rfl) (fun q18 e18 hq18 => ?_)
  refine x_topi (z := (2 : Int32)) y2.symm ?_
  obtain ⟨m18, hm18⟩ : ∃ y : gM, y = (f_h_undo m17).2 := ⟨_, rfl⟩
  rw [← hm18] at y3
  refine x_mu2 hm18 rfl ?_
  have R18 : Rq 1164 m18 (rwN tb_9) [rwN tb_7, rwN tb_8] := y3
  clear y1 y2 y3 hm18
  refine x_lve (lv' := [(0, .ref (q18 0))]) (by rw [e18 0 (by decide)]) ?_
  refine x_iconst (v := (2 : Int32)) C dL_pages_891 (by decide) ?_
  refine x_icmp_ne (tgt := 931) C dL_pages_892 (by decide) (fun w => absurd (by decide) w) (fun _ => ?_)
  refine x_aload_n C dL_pages_895 rfl 0 rfl ?_
  refine x_iconst (v := (5 : Int32)) C dL_pages_896 (by decide) ?_
  refine x_iconst (v := (2 : Int32)) C dL_pages_897 (by decide) ?_
  refine x_callVi (n := 2) C hq18 gFr_same (c_h_page l G q18 m18 h1 (5 : Int32) (2 : Int32) (pk_92 R18 (by decide)).1) (cwV 2 C.2.2.2.2.2.1 gL_pages_X2_page rfl rfl rfl (by decide +kernel) ⟨Nat.le_of_ble_eq_true rfl, Nat.le_of_ble_eq_true rfl⟩) rfl rfl rfl rfl (Nat.le_of_ble_eq_true rfl) dL_pages_898 (Nat.le_of_ble_eq_true rfl) (Nat.le_of_ble_eq_true rfl) ?_
  refine x_topi (z := (0 : Int32)) (pk_92 R18 (by decide)).2.symm ?_
  refine x_if_ne (tgt := 931) C dL_pages_901 (by decide) (fun w => absurd (by decide) w) (fun _ => ?_)
  refine x_aload_n C dL_pages_904 rfl 0 rfl ?_
  obtain ⟨y1, y2, y3, -, -⟩ := undoQ (rs := [rwN tb_7]) (f := rwN tb_8) R18
  refine x_callVpi (n := 0) (n4 := 4) C hq18 (c_h_undo l G q18 m18 h1 y1) (cwV 0 C.2.2.2.2.2.1 gL_pages_X2_undo rfl rfl rfl (by decide +kernel) ⟨Nat.le_of_ble_eq_true rfl, Nat.le_of_ble_eq_true rfl⟩) rfl rfl rfl rfl (Nat.le_of_ble_eq_true rfl) dL_pages_905 (Nat.le_of_ble_eq_true rfl) (Nat.le_of_ble_eq_true rfl) (fun q19 e19 hq19 => ?_)
  refine x_topi (z := (1 : Int32)) y2.symm ?_
  obtain ⟨m19, hm19⟩ : ∃ y : gM, y = (f_h_undo m18).2 := ⟨_, rfl⟩
  rw [← hm19] at y3
  refine x_mu2 hm19 rfl ?_
  have R19 : Rq 1164 m19 (rwN tb_8) [rwN tb_7] := y3
  clear y1 y2 y3 hm19
  refine x_lve (lv' := [(0, .ref (q19 0))]) (by rw [e19 0 (by decide)]) ?_
  refine x_iconst (v := (1 : Int32)) C dL_pages_908 (by decide) ?_
  refine x_icmp_ne (tgt := 931) C dL_pages_909 (by decide) (fun w => absurd (by decide) w) (fun _ => ?_)
  refine x_aload_n C dL_pages_912 rfl 0 rfl ?_
  refine x_iconst (v := (1 : Int32)) C dL_pages_913 (by decide) ?_
  refine x_iconst (v := (0 : Int32)) C dL_pages_914 (by decide) ?_
  refine x_callVi (n := 2) C hq19 gFr_same (c_h_block l G q19 m19 h1 (1 : Int32) (0 : Int32) (pk_93 R19 (by decide)).1) (cwV 2 C.2.2.2.2.2.1 gL_pages_X2_block rfl rfl rfl (by decide +kernel) ⟨Nat.le_of_ble_eq_true rfl, Nat.le_of_ble_eq_true rfl⟩) rfl rfl rfl rfl (Nat.le_of_ble_eq_true rfl) dL_pages_915 (Nat.le_of_ble_eq_true rfl) (Nat.le_of_ble_eq_true rfl) ?_
  refine x_topi (z := (2 : Int32)) (pk_93 R19 (by decide)).2.symm ?_
  refine x_iconst (v := (2 : Int32)) C dL_pages_918 (by decide) ?_
  refine x_icmp_ne (tgt := 931) C dL_pages_919 (by decide) (fun w => absurd (by decide) w) (fun _ => ?_)
  refine x_aload_n C dL_pages_922 rfl 0 rfl ?_
  refine x_bipush (v := (8 : Int32)) C dL_pages_923 (by decide) ?_
  refine x_callVi (n := 1) C hq19 gFr_same (c_h_count l G q19 m19 h1 (8 : Int32) (pk_94 R19 (by decide)).1) (cwV 1 C.2.2.2.2.2.1 gL_pages_X2_count rfl rfl rfl (by decide +kernel) ⟨Nat.le_of_ble_eq_true rfl, Nat.le_of_ble_eq_true rfl⟩) rfl rfl rfl rfl (Nat.le_of_ble_eq_true rfl) dL_pages_925 (Nat.le_of_ble_eq_true rfl) (Nat.le_of_ble_eq_true rfl) ?_
  refine x_topi (z := (0 : Int32)) (pk_94 R19 (by decide)).2.symm ?_
  refine x_if_eq (tgt := 933) C dL_pages_928 (by decide) (fun _ => ?_) (fun w => absurd (by decide) w)
  refine x_lv (lv' := []) [] rfl ?_
  refine x_ren (sh' := []) [] ⟨List.nodup_nil, rfl⟩ rfl ?_
  refine x_newH (cells' := 329) (slots' := 6784) C kn_pages kx_pages gL_pages_X2_init (by decide) (by decide) hE gD_0 dL_pages_933 dL_pages_936 dL_pages_937 rfl rfl (Nat.le_of_ble_eq_true rfl) (Nat.le_of_ble_eq_true rfl) (fun q20 m20 h20 k20a k20b k20c hq20 => ?_)
  have R20 : Rq 0 m20 (rwN tb_0) [] := Rq_fresh k20a k20b pk_0
  refine x_astore_n (lv' := [(1, .ref (q20 0))]) C dL_pages_940 rfl (by decide) [0] rfl ?_
  refine x_aload_n C dL_pages_941 rfl 0 rfl ?_
  refine x_iconst (v := (0 : Int32)) C dL_pages_942 (by decide) ?_
  refine x_bipush (v := (40 : Int32)) C dL_pages_943 (by decide) ?_
  refine x_iconst (v := (1 : Int32)) C dL_pages_945 (by decide) ?_
  obtain ⟨y1, y2, y3⟩ := pk_96 R20 (by decide)
  refine x_callVpi (n := 3) (n4 := 4) C hq20 (c_h_writeRow l G q20 m20 h20 (0 : Int32) (40 : Int32) (1 : Int32) y1) (cwV 3 C.2.2.2.2.2.1 gL_pages_X2_writeRow rfl rfl rfl (by decide +kernel) ⟨Nat.le_of_ble_eq_true rfl, Nat.le_of_ble_eq_true rfl⟩) rfl rfl rfl rfl (Nat.le_of_ble_eq_true rfl) dL_pages_946 (Nat.le_of_ble_eq_true rfl) (Nat.le_of_ble_eq_true rfl) (fun q21 e21 hq21 => ?_)
  refine x_topi (z := (0 : Int32)) y2.symm ?_
  obtain ⟨m21, hm21⟩ : ∃ y : gM, y = (f_h_writeRow m20 (0 : Int32) (40 : Int32) (1 : Int32)).2 := ⟨_, rfl⟩
  rw [← hm21] at y3
  refine x_mu2 hm21 rfl ?_
  rw [pus_lt (by decide)] at y3
  have R21 : Rq 3880 m21 (rwN tb_13) [rwN tb_0] := y3
  clear y1 y2 y3 hm21
  refine x_lve (lv' := [(1, .ref (q21 0))]) (by rw [e21 0 (by decide)]) ?_
  refine x_if_ne (tgt := 1125) C dL_pages_949 (by decide) (fun w => absurd (by decide) w) (fun _ => ?_)
  refine x_aload_n C dL_pages_952 rfl 0 rfl ?_
  refine x_iconst (v := (1 : Int32)) C dL_pages_953 (by decide) ?_
  refine x_callVi (n := 1) C hq21 gFr_same (c_h_count l G q21 m21 h20 (1 : Int32) (pk_97 R21 (by decide)).1) (cwV 1 C.2.2.2.2.2.1 gL_pages_X2_count rfl rfl rfl (by decide +kernel) ⟨Nat.le_of_ble_eq_true rfl, Nat.le_of_ble_eq_true rfl⟩) rfl rfl rfl rfl (Nat.le_of_ble_eq_true rfl) dL_pages_954 (Nat.le_of_ble_eq_true rfl) (Nat.le_of_ble_eq_true rfl) ?_
  refine x_topi (z := (7 : Int32)) (pk_97 R21 (by decide)).2.symm ?_
  refine x_bipush (v := (7 : Int32)) C dL_pages_957 (by decide) ?_
  refine x_icmp_ne (tgt := 1125) C dL_pages_959 (by decide) (fun w => absurd (by decide) w) (fun _ => ?_)
  refine x_aload_n C dL_pages_962 rfl 0 rfl ?_
  refine x_iconst (v := (3 : Int32)) C dL_pages_963 (by decide) ?_
  refine x_callVi (n := 1) C hq21 gFr_same (c_h_count l G q21 m21 h20 (3 : Int32) (pk_98 R21 (by decide)).1) (cwV 1 C.2.2.2.2.2.1 gL_pages_X2_count rfl rfl rfl (by decide +kernel) ⟨Nat.le_of_ble_eq_true rfl, Nat.le_of_ble_eq_true rfl⟩) rfl rfl rfl rfl (Nat.le_of_ble_eq_true rfl) dL_pages_964 (Nat.le_of_ble_eq_true rfl) (Nat.le_of_ble_eq_true rfl) ?_
  refine x_topi (z := (5 : Int32)) (pk_98 R21 (by decide)).2.symm ?_
  refine x_iconst (v := (5 : Int32)) C dL_pages_967 (by decide) ?_
  refine x_icmp_ne (tgt := 1125) C dL_pages_968 (by decide) (fun w => absurd (by decide) w) (fun _ => ?_)
  refine x_aload_n C dL_pages_971 rfl 0 rfl ?_
  refine x_iconst (v := (4 : Int32)) C dL_pages_972 (by decide) ?_
  refine x_bipush (v := (6 : Int32)) C dL_pages_973 (by decide) ?_
  refine x_callVi (n := 2) C hq21 gFr_same (c_h_block l G q21 m21 h20 (4 : Int32) (6 : Int32) (pk_99 R21 (by decide)).1) (cwV 2 C.2.2.2.2.2.1 gL_pages_X2_block rfl rfl rfl (by decide +kernel) ⟨Nat.le_of_ble_eq_true rfl, Nat.le_of_ble_eq_true rfl⟩) rfl rfl rfl rfl (Nat.le_of_ble_eq_true rfl) dL_pages_975 (Nat.le_of_ble_eq_true rfl) (Nat.le_of_ble_eq_true rfl) ?_
  refine x_topi (z := (4 : Int32)) (pk_99 R21 (by decide)).2.symm ?_
  refine x_iconst (v := (4 : Int32)) C dL_pages_978 (by decide) ?_
  refine x_icmp_ne (tgt := 1125) C dL_pages_979 (by decide) (fun w => absurd (by decide) w) (fun _ => ?_)
  refine x_aload_n C dL_pages_982 rfl 0 rfl ?_
  refine x_iconst (v := (0 : Int32)) C dL_pages_983 (by decide) ?_
  refine x_bipush (v := (40 : Int32)) C dL_pages_984 (by decide) ?_
  refine x_iconst (v := (1 : Int32)) C dL_pages_986 (by decide) ?_
  obtain ⟨y1, y2, y3⟩ := pk_101 R21 (by decide)
  refine x_callVpi (n := 3) (n4 := 4) C hq21 (c_h_writeRow l G q21 m21 h20 (0 : Int32) (40 : Int32) (1 : Int32) y1) (cwV 3 C.2.2.2.2.2.1 gL_pages_X2_writeRow rfl rfl rfl (by decide +kernel) ⟨Nat.le_of_ble_eq_true rfl, Nat.le_of_ble_eq_true rfl⟩) rfl rfl rfl rfl (Nat.le_of_ble_eq_true rfl) dL_pages_987 (Nat.le_of_ble_eq_true rfl) (Nat.le_of_ble_eq_true rfl) (fun q22 e22 hq22 => ?_)
  refine x_topi (z := (0 : Int32)) y2.symm ?_
  obtain ⟨m22, hm22⟩ : ∃ y : gM, y = (f_h_writeRow m21 (0 : Int32) (40 : Int32) (1 : Int32)).2 := ⟨_, rfl⟩
  rw [← hm22] at y3
  refine x_mu2 hm22 rfl ?_
  rw [pus_lt (by decide)] at y3
  have R22 : Rq 7760 m22 (rwN tb_14) [rwN tb_0, rwN tb_13] := y3
  clear y1 y2 y3 hm22
  refine x_lve (lv' := [(1, .ref (q22 0))]) (by rw [e22 0 (by decide)]) ?_
  refine x_if_ne (tgt := 1125) C dL_pages_990 (by decide) (fun w => absurd (by decide) w) (fun _ => ?_)
  refine x_aload_n C dL_pages_993 rfl 0 rfl ?_
  refine x_iconst (v := (1 : Int32)) C dL_pages_994 (by decide) ?_
  refine x_callVi (n := 1) C hq22 gFr_same (c_h_count l G q22 m22 h20 (1 : Int32) (pk_102 R22 (by decide)).1) (cwV 1 C.2.2.2.2.2.1 gL_pages_X2_count rfl rfl rfl (by decide +kernel) ⟨Nat.le_of_ble_eq_true rfl, Nat.le_of_ble_eq_true rfl⟩) rfl rfl rfl rfl (Nat.le_of_ble_eq_true rfl) dL_pages_995 (Nat.le_of_ble_eq_true rfl) (Nat.le_of_ble_eq_true rfl) ?_
  refine x_topi (z := (2 : Int32)) (pk_102 R22 (by decide)).2.symm ?_
  refine x_iconst (v := (2 : Int32)) C dL_pages_998 (by decide) ?_
  refine x_icmp_ne (tgt := 1125) C dL_pages_999 (by decide) (fun w => absurd (by decide) w) (fun _ => ?_)
  refine x_aload_n C dL_pages_1002 rfl 0 rfl ?_
  refine x_iconst (v := (4 : Int32)) C dL_pages_1003 (by decide) ?_
  refine x_callVi (n := 1) C hq22 gFr_same (c_h_count l G q22 m22 h20 (4 : Int32) (pk_103 R22 (by decide)).1) (cwV 1 C.2.2.2.2.2.1 gL_pages_X2_count rfl rfl rfl (by decide +kernel) ⟨Nat.le_of_ble_eq_true rfl, Nat.le_of_ble_eq_true rfl⟩) rfl rfl rfl rfl (Nat.le_of_ble_eq_true rfl) dL_pages_1004 (Nat.le_of_ble_eq_true rfl) (Nat.le_of_ble_eq_true rfl) ?_
  refine x_topi (z := (40 : Int32)) (pk_103 R22 (by decide)).2.symm ?_
  refine x_bipush (v := (40 : Int32)) C dL_pages_1007 (by decide) ?_
  refine x_icmp_ne (tgt := 1125) C dL_pages_1009 (by decide) (fun w => absurd (by decide) w) (fun _ => ?_)
  refine x_aload_n C dL_pages_1012 rfl 0 rfl ?_
  refine x_bipush (v := (10 : Int32)) C dL_pages_1013 (by decide) ?_
  refine x_callVi (n := 1) C hq22 gFr_same (c_h_count l G q22 m22 h20 (10 : Int32) (pk_104 R22 (by decide)).1) (cwV 1 C.2.2.2.2.2.1 gL_pages_X2_count rfl rfl rfl (by decide +kernel) ⟨Nat.le_of_ble_eq_true rfl, Nat.le_of_ble_eq_true rfl⟩) rfl rfl rfl rfl (Nat.le_of_ble_eq_true rfl) dL_pages_1015 (Nat.le_of_ble_eq_true rfl) (Nat.le_of_ble_eq_true rfl) ?_
  refine x_topi (z := (0 : Int32)) (pk_104 R22 (by decide)).2.symm ?_
  refine x_if_ne (tgt := 1125) C dL_pages_1018 (by decide) (fun w => absurd (by decide) w) (fun _ => ?_)
  refine x_aload_n C dL_pages_1021 rfl 0 rfl ?_
  refine x_iconst (v := (0 : Int32)) C dL_pages_1022 (by decide) ?_
  refine x_iconst (v := (2 : Int32)) C dL_pages_1023 (by decide) ?_
  obtain ⟨y1, y2, y3⟩ := pk_106 R22 (by decide)
  refine x_callVpi (n := 2) (n4 := 4) C hq22 (c_h_write l G q22 m22 h20 (0 : Int32) (2 : Int32) y1) (cwV 2 C.2.2.2.2.2.1 gL_pages_X2_write rfl rfl rfl (by decide +kernel) ⟨Nat.le_of_ble_eq_true rfl, Nat.le_of_ble_eq_true rfl⟩) rfl rfl rfl rfl (Nat.le_of_ble_eq_true rfl) dL_pages_1024 (Nat.le_of_ble_eq_true rfl) (Nat.le_of_ble_eq_true rfl) (fun q23 e23 hq23 => ?_)
  refine x_topi (z := (0 : Int32)) y2.symm ?_
  obtain ⟨m23, hm23⟩ : ∃ y : gM, y = (f_h_write m22 (0 : Int32) (2 : Int32)).2 := ⟨_, rfl⟩
  rw [← hm23] at y3
  refine x_mu2 hm23 rfl ?_
  rw [pus_lt (by decide)] at y3
  have R23 : Rq 7857 m23 (rwN tb_15) [rwN tb_0, rwN tb_13, rwN tb_14] := y3
  clear y1 y2 y3 hm23
  refine x_lve (lv' := [(1, .ref (q23 0))]) (by rw [e23 0 (by decide)]) ?_
  refine x_if_ne (tgt := 1125) C dL_pages_1027 (by decide) (fun w => absurd (by decide) w) (fun _ => ?_)
  refine x_aload_n C dL_pages_1030 rfl 0 rfl ?_
  refine x_iconst (v := (1 : Int32)) C dL_pages_1031 (by decide) ?_
  refine x_callVi (n := 1) C hq23 gFr_same (c_h_count l G q23 m23 h20 (1 : Int32) (pk_107 R23 (by decide)).1) (cwV 1 C.2.2.2.2.2.1 gL_pages_X2_count rfl rfl rfl (by decide +kernel) ⟨Nat.le_of_ble_eq_true rfl, Nat.le_of_ble_eq_true rfl⟩) rfl rfl rfl rfl (Nat.le_of_ble_eq_true rfl) dL_pages_1032 (Nat.le_of_ble_eq_true rfl) (Nat.le_of_ble_eq_true rfl) ?_
  refine x_topi (z := (1 : Int32)) (pk_107 R23 (by decide)).2.symm ?_
  refine x_iconst (v := (1 : Int32)) C dL_pages_1035 (by decide) ?_
  refine x_icmp_ne (tgt := 1125) C dL_pages_1036 (by decide) (fun w => absurd (by decide) w) (fun _ => ?_)
  refine x_aload_n C dL_pages_1039 rfl 0 rfl ?_
  refine x_iconst (v := (1 : Int32)) C dL_pages_1040 (by decide) ?_
  refine x_iconst (v := (2 : Int32)) C dL_pages_1041 (by decide) ?_
  obtain ⟨y1, y2, y3⟩ := pk_109 R23 (by decide)
  refine x_callVpi (n := 2) (n4 := 4) C hq23 (c_h_write l G q23 m23 h20 (1 : Int32) (2 : Int32) y1) (cwV 2 C.2.2.2.2.2.1 gL_pages_X2_write rfl rfl rfl (by decide +kernel) ⟨Nat.le_of_ble_eq_true rfl, Nat.le_of_ble_eq_true rfl⟩) rfl rfl rfl rfl (Nat.le_of_ble_eq_true rfl) dL_pages_1042 (Nat.le_of_ble_eq_true rfl) (Nat.le_of_ble_eq_true rfl) (fun q24 e24 hq24 => ?_)
  refine x_topi (z := (0 : Int32)) y2.symm ?_
  obtain ⟨m24, hm24⟩ : ∃ y : gM, y = (f_h_write m23 (1 : Int32) (2 : Int32)).2 := ⟨_, rfl⟩
  rw [← hm24] at y3
  refine x_mu2 hm24 rfl ?_
  rw [pus_lt (by decide)] at y3
  have R24 : Rq 7954 m24 (rwN tb_16) [rwN tb_0, rwN tb_13, rwN tb_14, rwN tb_15] := y3
  clear y1 y2 y3 hm24
  refine x_lve (lv' := [(1, .ref (q24 0))]) (by rw [e24 0 (by decide)]) ?_
  refine x_if_ne (tgt := 1125) C dL_pages_1045 (by decide) (fun w => absurd (by decide) w) (fun _ => ?_)
  refine x_aload_n C dL_pages_1048 rfl 0 rfl ?_
  refine x_iconst (v := (1 : Int32)) C dL_pages_1049 (by decide) ?_
  refine x_callVi (n := 1) C hq24 gFr_same (c_h_count l G q24 m24 h20 (1 : Int32) (pk_110 R24 (by decide)).1) (cwV 1 C.2.2.2.2.2.1 gL_pages_X2_count rfl rfl rfl (by decide +kernel) ⟨Nat.le_of_ble_eq_true rfl, Nat.le_of_ble_eq_true rfl⟩) rfl rfl rfl rfl (Nat.le_of_ble_eq_true rfl) dL_pages_1050 (Nat.le_of_ble_eq_true rfl) (Nat.le_of_ble_eq_true rfl) ?_
  refine x_topi (z := (2 : Int32)) (pk_110 R24 (by decide)).2.symm ?_
  refine x_iconst (v := (2 : Int32)) C dL_pages_1053 (by decide) ?_
  refine x_icmp_ne (tgt := 1125) C dL_pages_1054 (by decide) (fun w => absurd (by decide) w) (fun _ => ?_)
  refine x_aload_n C dL_pages_1057 rfl 0 rfl ?_
  refine x_bipush (v := (8 : Int32)) C dL_pages_1058 (by decide) ?_
  refine x_callVi (n := 1) C hq24 gFr_same (c_h_count l G q24 m24 h20 (8 : Int32) (pk_111 R24 (by decide)).1) (cwV 1 C.2.2.2.2.2.1 gL_pages_X2_count rfl rfl rfl (by decide +kernel) ⟨Nat.le_of_ble_eq_true rfl, Nat.le_of_ble_eq_true rfl⟩) rfl rfl rfl rfl (Nat.le_of_ble_eq_true rfl) dL_pages_1060 (Nat.le_of_ble_eq_true rfl) (Nat.le_of_ble_eq_true rfl) ?_
  refine x_topi (z := (1 : Int32)) (pk_111 R24 (by decide)).2.symm ?_
  refine x_iconst (v := (1 : Int32)) C dL_pages_1063 (by decide) ?_
  refine x_icmp_ne (tgt := 1125) C dL_pages_1064 (by decide) (fun w => absurd (by decide) w) (fun _ => ?_)
  refine x_aload_n C dL_pages_1067 rfl 0 rfl ?_
  refine x_iconst (v := (0 : Int32)) C dL_pages_1068 (by decide) ?_
  refine x_iconst (v := (5 : Int32)) C dL_pages_1069 (by decide) ?_
  refine x_callVi (n := 2) C hq24 gFr_same (c_h_block l G q24 m24 h20 (0 : Int32) (5 : Int32) (pk_112 R24 (by decide)).1) (cwV 2 C.2.2.2.2.2.1 gL_pages_X2_block rfl rfl rfl (by decide +kernel) ⟨Nat.le_of_ble_eq_true rfl, Nat.le_of_ble_eq_true rfl⟩) rfl rfl rfl rfl (Nat.le_of_ble_eq_true rfl) dL_pages_1070 (Nat.le_of_ble_eq_true rfl) (Nat.le_of_ble_eq_true rfl) ?_
  refine x_topi (z := (1 : Int32)) (pk_112 R24 (by decide)).2.symm ?_
  refine x_iconst (v := (1 : Int32)) C dL_pages_1073 (by decide) ?_
  refine x_icmp_ne (tgt := 1125) C dL_pages_1074 (by decide) (fun w => absurd (by decide) w) (fun _ => ?_)
  refine x_aload_n C dL_pages_1077 rfl 0 rfl ?_
  refine x_iconst (v := (1 : Int32)) C dL_pages_1078 (by decide) ?_
  refine x_iconst (v := (4 : Int32)) C dL_pages_1079 (by decide) ?_
  obtain ⟨y1, y2, y3⟩ := pk_113 R24 (by decide)
  refine x_callVpi (n := 2) (n4 := 4) C hq24 (c_h_set l G q24 m24 h20 (1 : Int32) (4 : Int32) y1) (cwV 2 C.2.2.2.2.2.1 gL_pages_X2_set rfl rfl rfl (by decide +kernel) ⟨Nat.le_of_ble_eq_true rfl, Nat.le_of_ble_eq_true rfl⟩) rfl rfl rfl rfl (Nat.le_of_ble_eq_true rfl) dL_pages_1080 (Nat.le_of_ble_eq_true rfl) (Nat.le_of_ble_eq_true rfl) (fun q25 e25 hq25 => ?_)
  refine x_topi (z := (2 : Int32)) y2.symm ?_
  obtain ⟨m25, hm25⟩ : ∃ y : gM, y = (f_h_set m24 (1 : Int32) (4 : Int32)).2 := ⟨_, rfl⟩
  rw [← hm25] at y3
  refine x_mu2 hm25 rfl ?_
  rw [pus_lt (by decide)] at y3
  have R25 : Rq 7954 m25 (rwN tb_17) [rwN tb_0, rwN tb_13, rwN tb_14, rwN tb_15, rwN tb_16] := y3
  clear y1 y2 y3 hm25
  refine x_lve (lv' := [(1, .ref (q25 0))]) (by rw [e25 0 (by decide)]) ?_
  refine x_iconst (v := (2 : Int32)) C dL_pages_1083 (by decide) ?_
  refine x_icmp_ne (tgt := 1125) C dL_pages_1084 (by decide) (fun w => absurd (by decide) w) (fun _ => ?_)
  refine x_aload_n C dL_pages_1087 rfl 0 rfl ?_
  refine x_iconst (v := (4 : Int32)) C dL_pages_1088 (by decide) ?_
  obtain ⟨y1, y2, y3⟩ := pk_114 R25 (by decide)
  refine x_callVpi (n := 1) (n4 := 4) C hq25 (c_h_tidy l G q25 m25 h20 (4 : Int32) y1) (cwV 1 C.2.2.2.2.2.1 gL_pages_X2_tidy rfl rfl rfl (by decide +kernel) ⟨Nat.le_of_ble_eq_true rfl, Nat.le_of_ble_eq_true rfl⟩) rfl rfl rfl rfl (Nat.le_of_ble_eq_true rfl) dL_pages_1089 (Nat.le_of_ble_eq_true rfl) (Nat.le_of_ble_eq_true rfl) (fun q26 e26 hq26 => ?_)
  refine x_topi (z := (2 : Int32)) y2.symm ?_
  obtain ⟨m26, hm26⟩ : ∃ y : gM, y = (f_h_tidy m25 (4 : Int32)).2 := ⟨_, rfl⟩
  rw [← hm26] at y3
  refine x_mu2 hm26 rfl ?_
  rw [pus_lt (by decide)] at y3
  have R26 : Rq 8051 m26 (rwN tb_18) [rwN tb_0, rwN tb_13, rwN tb_14, rwN tb_15, rwN tb_16, rwN tb_17] := y3
  clear y1 y2 y3 hm26
  refine x_lve (lv' := [(1, .ref (q26 0))]) (by rw [e26 0 (by decide)]) ?_
  refine x_iconst (v := (2 : Int32)) C dL_pages_1092 (by decide) ?_
  refine x_icmp_ne (tgt := 1125) C dL_pages_1093 (by decide) (fun w => absurd (by decide) w) (fun _ => ?_)
  refine x_aload_n C dL_pages_1096 rfl 0 rfl ?_
  refine x_iconst (v := (1 : Int32)) C dL_pages_1097 (by decide) ?_
  refine x_callVi (n := 1) C hq26 gFr_same (c_h_count l G q26 m26 h20 (1 : Int32) (pk_115 R26 (by decide)).1) (cwV 1 C.2.2.2.2.2.1 gL_pages_X2_count rfl rfl rfl (by decide +kernel) ⟨Nat.le_of_ble_eq_true rfl, Nat.le_of_ble_eq_true rfl⟩) rfl rfl rfl rfl (Nat.le_of_ble_eq_true rfl) dL_pages_1098 (Nat.le_of_ble_eq_true rfl) (Nat.le_of_ble_eq_true rfl) ?_
  refine x_topi (z := (4 : Int32)) (pk_115 R26 (by decide)).2.symm ?_
  refine x_iconst (v := (4 : Int32)) C dL_pages_1101 (by decide) ?_
  refine x_icmp_ne (tgt := 1125) C dL_pages_1102 (by decide) (fun w => absurd (by decide) w) (fun _ => ?_)
  refine x_aload_n C dL_pages_1105 rfl 0 rfl ?_
  refine x_bipush (v := (7 : Int32)) C dL_pages_1106 (by decide) ?_
  refine x_callVi (n := 1) C hq26 gFr_same (c_h_count l G q26 m26 h20 (7 : Int32) (pk_116 R26 (by decide)).1) (cwV 1 C.2.2.2.2.2.1 gL_pages_X2_count rfl rfl rfl (by decide +kernel) ⟨Nat.le_of_ble_eq_true rfl, Nat.le_of_ble_eq_true rfl⟩) rfl rfl rfl rfl (Nat.le_of_ble_eq_true rfl) dL_pages_1108 (Nat.le_of_ble_eq_true rfl) (Nat.le_of_ble_eq_true rfl) ?_
  refine x_topi (z := (0 : Int32)) (pk_116 R26 (by decide)).2.symm ?_
  refine x_if_ne (tgt := 1125) C dL_pages_1111 (by decide) (fun w => absurd (by decide) w) (fun _ => ?_)
  refine x_aload_n C dL_pages_1114 rfl 0 rfl ?_
  refine x_callZ0 (n := 1) (shc := shH) (rest := []) (cells' := 389) (slots' := 7144) C (List.append_nil _).symm hq26 wf_shH rfl hX (c_l_refused l hl9 G q26 m26 h20 (seenQ R26 (by decide)).1 (count11Q R26).1) (va_cwS 1 C.2.2.2.2.2.1 gL_pages_L_refused rfl rfl rfl (by decide +kernel) ⟨Nat.le_of_ble_eq_true rfl, Nat.le_of_ble_eq_true rfl⟩) rfl rfl (Nat.le_of_ble_eq_true rfl) dL_pages_1115 rfl rfl (Nat.le_of_ble_eq_true rfl) (Nat.le_of_ble_eq_true rfl) ?_
  refine x_if_eq (tgt := 1125) C dL_pages_1118 (by decide) (fun w => absurd w (by decide)) (fun _ => ?_)
  refine x_iconst (v := (1 : Int32)) C dL_pages_1121 (by decide) ?_
  refine x_goto (tgt := 1126) C dL_pages_1122 (by decide) ?_
  exact g_iret0 C hr (by decide) dL_pages_1126 rfl (Nat.le_of_ble_eq_true rfl) (Nat.le_of_ble_eq_true rfl)
