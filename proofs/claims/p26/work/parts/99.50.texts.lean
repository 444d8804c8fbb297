/-! errorOf() and texts(): the walks -/
set_option maxRecDepth 20000 in
theorem kn_errorOf : ∀ w ∈ lwN, w ∈ wsL_errorOf := mem_r [1, 2, 3, 4, 5] rfl
theorem kx_errorOf : ∀ w ∈ wsX20, w ∈ wsL_errorOf := fun _ h => List.mem_cons_of_mem _ (List.mem_append_left _ (List.mem_append_left _ (List.mem_append_left _ (List.mem_append_left _ (List.mem_append_right _ h)))))
set_option maxRecDepth 20000 in
theorem kn_texts : ∀ w ∈ lwN, w ∈ wsL_texts := mem_r [22, 23, 24, 31, 32] rfl
theorem kx_texts : ∀ w ∈ wsX20, w ∈ wsL_texts := fun _ h => List.mem_cons_of_mem _ (List.mem_append_left _ (List.mem_append_left _ (List.mem_append_left _ (List.mem_append_left _ (List.mem_append_left _ (List.mem_append_right _ h))))))
set_option maxRecDepth 20000 in
theorem kc_L_texts_124 : Cond.constantLong RL 124 (3356973) ∈ wsL_texts := by decide +kernel
set_option maxRecDepth 20000 in
theorem kc_L_texts_126 : Cond.constantLong RL 126 (3484981) ∈ wsL_texts := by decide +kernel
set_option maxRecDepth 20000 in
theorem kc_L_texts_128 : Cond.constantLong RL 128 (3484976) ∈ wsL_texts := by decide +kernel
set_option maxRecDepth 20000 in
theorem kc_L_texts_130 : Cond.constantLong RL 130 (3484982) ∈ wsL_texts := by decide +kernel
set_option maxRecDepth 20000 in
theorem kc_L_texts_132 : Cond.constantLong RL 132 (842018097) ∈ wsL_texts := by decide +kernel
set_option maxRecDepth 20000 in
theorem kc_L_texts_134 : Cond.constantLong RL 134 (215556633147) ∈ wsL_texts := by decide +kernel
set_option maxRecDepth 20000 in
theorem kc_L_texts_136 : Cond.constantLong RL 136 (215556633136) ∈ wsL_texts := by decide +kernel
set_option maxRecDepth 20000 in
theorem kc_L_texts_138 : Cond.constantLong RL 138 (842018098) ∈ wsL_texts := by decide +kernel
set_option maxRecDepth 20000 in
theorem kc_L_texts_140 : Cond.constantLong RL 140 (215556633137) ∈ wsL_texts := by decide +kernel
set_option maxRecDepth 20000 in
theorem kc_L_texts_142 : Cond.constantLong RL 142 (892154171) ∈ wsL_texts := by decide +kernel
set_option maxRecDepth 20000 in
theorem kc_L_texts_144 : Cond.constantLong RL 144 (3484977) ∈ wsL_texts := by decide +kernel
set_option maxRecDepth 20000 in
theorem kc_L_texts_146 : Cond.constantLong RL 146 (58468215056436) ∈ wsL_texts := by decide +kernel
set_option maxRecDepth 20000 in
theorem kc_L_texts_148 : Cond.constantLong RL 148 (3500083) ∈ wsL_texts := by decide +kernel
set_option maxRecDepth 20000 in
theorem kc_L_texts_150 : Cond.constantLong RL 150 (12343) ∈ wsL_texts := by decide +kernel
set_option maxRecDepth 20000 in
theorem kc_L_texts_152 : Cond.constantLong RL 152 (13360) ∈ wsL_texts := by decide +kernel
set_option maxRecDepth 20000 in
theorem kc_L_texts_154 : Cond.constantLong RL 154 (52970691061811) ∈ wsL_texts := by decide +kernel
set_option maxRecDepth 20000 in
theorem kc_L_texts_156 : Cond.constantLong RL 156 (862466363) ∈ wsL_texts := by decide +kernel
set_option maxRecDepth 20000 in
theorem kc_L_texts_158 : Cond.constantLong RL 158 (892154216) ∈ wsL_texts := by decide +kernel
set_option maxRecDepth 20000 in
theorem kc_L_texts_160 : Cond.constantLong RL 160 (104) ∈ wsL_texts := by decide +kernel
set_option maxRecDepth 20000 in
theorem kc_L_texts_162 : Cond.constantLong RL 162 (858600552) ∈ wsL_texts := by decide +kernel
set_option maxRecDepth 20000 in
theorem kc_L_texts_164 : Cond.constantLong RL 164 (56316369516845) ∈ wsL_texts := by decide +kernel
set_option maxRecDepth 20000 in
theorem kc_L_texts_166 : Cond.constantLong RL 166 (3471487410368098875) ∈ wsL_texts := by decide +kernel
set_option maxRecDepth 20000 in
theorem kc_L_texts_168 : Cond.constantLong RL 168 (48) ∈ wsL_texts := by decide +kernel
abbrev rmTX : Room := { frames := 10, cells := 3040, slots := 73555, locals := 262 }
abbrev rmEO : Room := { frames := 9, cells := 132, slots := 3197, locals := 240 }
set_option maxRecDepth 100000 in
set_option maxHeartbeats 4000000 in
theorem c_l_errorOf (l : Launch) (G : gG) (q : Nat → Nat) (μ : gM) (ν : gN) (w : Int64) (r : Int32) (hw : ∀ m : gM, m 0 5 = 0 → o_l_types m w ∧ (f_l_types m w).1 = 1 ∧ o_h_firstError (f_l_types m w).2 ∧ (f_h_firstError (f_l_types m w).2).1 = r) : gMy l yL_errorOf wsL_errorOf rmEO G q μ ν [.long w] r 132 3197 := by
  intro sz
  refine g_mety (cc := cL_errorOf) (maxL := 3) (ret := (some .int)) (own := RL) (Qc := fun sz => gQi G [] q μ ν sz r) (by decide) rfl rfl (Nat.le_of_ble_eq_true rfl) (fun p e s m9 below meth c C hq hX hE hr => ?_)
  refine x_lv (lv' := [(0, .long w)]) [0] rfl ?_
  refine x_newH (cells' := 132) (slots' := 3197) C kn_errorOf kx_errorOf gL_errorOf_X2_init (by decide) (by decide) hE hq dL_errorOf_0 dL_errorOf_3 dL_errorOf_4 rfl rfl (Nat.le_of_ble_eq_true rfl) (Nat.le_of_ble_eq_true rfl) (fun q1 m1 h1 k1a k1b k1c hq1 => ?_)
  obtain ⟨w1, w2, w3, w4⟩ := hw m1 k1c
  refine x_astore_n (lv' := [(0, .long w), (2, .ref (q1 0))]) C dL_errorOf_7 rfl (by decide) [1, 0] rfl ?_
  refine x_aload_n C dL_errorOf_8 rfl 1 rfl ?_
  refine x_lload_n C dL_errorOf_9 rfl 0 rfl ?_
  refine x_callSi (n := 2) C hq1 gFr_same (c_l_types l G q1 m1 h1 w w1) (va_cwS 2 C.2.2.2.2.2.1 gL_errorOf_L_types rfl rfl rfl (by decide +kernel) ⟨Nat.le_of_ble_eq_true rfl, Nat.le_of_ble_eq_true rfl⟩) rfl rfl (Nat.le_of_ble_eq_true rfl) dL_errorOf_10 (Nat.le_of_ble_eq_true rfl) (Nat.le_of_ble_eq_true rfl) ?_
  refine x_topi (z := (1 : Int32)) w2.symm ?_
  refine x_if_eq (tgt := 23) C dL_errorOf_13 (by decide) (fun w => absurd w (by decide)) (fun _ => ?_)
  refine x_aload_n C dL_errorOf_16 rfl 1 rfl ?_
  refine x_callVi (n := 0) C hq1 gFr_same (c_h_firstError l G q1 (f_l_types m1 w).2 h1 w3) (cwV 0 C.2.2.2.2.2.1 gL_errorOf_X2_firstError rfl rfl rfl (by decide +kernel) ⟨Nat.le_of_ble_eq_true rfl, Nat.le_of_ble_eq_true rfl⟩) rfl rfl rfl rfl (Nat.le_of_ble_eq_true rfl) dL_errorOf_17 (Nat.le_of_ble_eq_true rfl) (Nat.le_of_ble_eq_true rfl) ?_
  refine x_goto (tgt := 25) C dL_errorOf_20 (by decide) ?_
  exact g_iret0 C hr rfl dL_errorOf_25 w4 (Nat.le_of_ble_eq_true rfl) (Nat.le_of_ble_eq_true rfl)
set_option maxRecDepth 100000 in
set_option maxHeartbeats 4000000 in
theorem texts_loop {p : Program} {l : Launch} {e : Env} {s : State} {m9 : MethodId} {args : Array Value} {below : List Frame} {meth : Method} {c : Code} {G : gG} {A : Nat → Prop} {Q : State → Prop} {q : Nat → Nat} (C : xC p s m9 args meth c G A 2 cL_texts RL wsL_texts) (hq : gD A q shH.length) {h : gN} {cells slots : Nat} (hc : cells ≤ rmTX.cells) (hs : slots ≤ rmTX.slots) : ∀ (n k : Nat) {m : gM}, k + n = 60 → bfR k (fun _ => 55) m → (∀ m' : gM, bfR 60 (fun _ => 55) m' → xJ p l e rmTX s m9 args below meth c G A 2 Q cells slots shH q m' h [(0, .ref (q 0)), (1, .int (60 : Int32))] [] 397) → xJ p l e rmTX s m9 args below meth c G A 2 Q cells slots shH q m h [(0, .ref (q 0)), (1, .int (Int32.ofNat k))] [] 371 := by
  intro n
  induction n with
  | zero =>
    intro k m hk hb K
    have hk : k = 60 := by omega
    subst hk
    refine x_iload_n C dL_texts_371 rfl 1 rfl ?_
    refine x_bipush (v := (60 : Int32)) C dL_texts_372 (by decide) ?_
    refine x_icmp_ge (tgt := 397) C dL_texts_374 (by decide) (fun _ => K m hb) (fun w => absurd (by decide) w)
  | succ n ih =>
    intro k m hk hb K
    obtain ⟨y1, y2, y3, -, -⟩ := append_b (c := 55) hb (by omega) (by omega) (by omega)
    have y4 : bfR (k + 1) (fun _ => 55) (f_h_append m (Int32.ofNat 55)).2 := bfR_eq y3 rfl (fun i hi => by show 55 = (if i = k then 55 else 55); split <;> rfl)
    have nge : ¬ ((60 : Int32) ≤ Int32.ofNat k) := fun w => by have := (leI (a := 60) (by omega) (by omega)).mp w; omega
    refine x_iload_n C dL_texts_371 rfl 1 rfl ?_
    refine x_bipush (v := (60 : Int32)) C dL_texts_372 (by decide) ?_
    refine x_icmp_ge (tgt := 397) C dL_texts_374 (by decide) (fun w => absurd w nge) (fun _ => ?_)
    refine x_aload_n C dL_texts_377 rfl 0 rfl ?_
    refine x_bipush (v := (55 : Int32)) C dL_texts_378 (by decide) ?_
    refine x_callVi (n := 1) C hq gFr_same (c_h_append l G q m h (55 : Int32) y1) (cwV 1 C.2.2.2.2.2.1 gL_texts_X2_append rfl rfl rfl (by decide +kernel) ⟨Nat.le_of_ble_eq_true rfl, Nat.le_of_ble_eq_true rfl⟩) rfl rfl rfl rfl (Nat.le_of_ble_eq_true rfl) dL_texts_380 hc hs ?_
    refine x_topi (z := Int32.ofNat (k + 1)) y2.symm ?_
    refine x_iload_n C dL_texts_383 rfl 1 rfl ?_
    refine x_iconst (v := (1 : Int32)) C dL_texts_384 (by decide) ?_
    refine x_iadd C dL_texts_385 ?_
    refine x_topi (z := Int32.ofNat (k + 1)) (e1r k).symm ?_
    refine x_icmp_eq (tgt := 391) C dL_texts_386 (by decide) (fun _ => ?_) (fun w => absurd rfl w)
    refine x_iinc (v := Int32.ofNat (k + 1)) (lv' := [(0, .ref (q 0)), (1, .int (Int32.ofNat (k + 1)))]) C dL_texts_391 1 rfl (by rw [show Int32.ofInt 1 = (1 : Int32) from by decide]; exact e1r k) (by decide) [1, 0] rfl ?_
    refine x_goto (tgt := 371) C dL_texts_394 (by decide) ?_
    exact ih (k + 1) (by omega) y4 K
set_option maxRecDepth 100000 in
set_option maxHeartbeats 40000000 in
theorem c_l_texts (l : Launch) (hl9 : l.stackTraces = false) (G : gG) (q : Nat → Nat) (μ : gM) (ν : gN) : gMy l yL_texts wsL_texts rmTX G q μ ν [] 1 3040 73555 := by
  intro sz
  refine g_mety (cc := cL_texts) (maxL := 2) (ret := (some .boolean)) (own := RL) (Qc := fun sz => gQi G [] q μ ν sz 1) (by decide) rfl rfl (Nat.le_of_ble_eq_true rfl) (fun p e s m9 below meth c C hq hX hE hr => ?_)
  refine x_lv (lv' := []) [] rfl ?_
  refine x_lconst (v := (0 : Int64)) C dL_texts_0 (by decide) ?_
  refine x_callY (n := 1) (cells' := 132) (slots' := 3197) C hX hE (fun q0 μ0 ν0 => c_l_errorOf l G q0 μ0 ν0 (0 : Int64) (0 : Int32) ew_0) (va_cwS 1 C.2.2.2.2.2.1 gL_texts_L_errorOf rfl rfl rfl (by decide +kernel) ⟨Nat.le_of_ble_eq_true rfl, Nat.le_of_ble_eq_true rfl⟩) rfl rfl (Nat.le_of_ble_eq_true rfl) dL_texts_1 rfl rfl (Nat.le_of_ble_eq_true rfl) (Nat.le_of_ble_eq_true rfl) ?_
  refine x_if_ne (tgt := 107) C dL_texts_4 (by decide) (fun w => absurd (by decide) w) (fun _ => ?_)
  refine x_ldc2 (v := (3356973 : Int64)) C kc_L_texts_124 dL_texts_7 ?_
  refine x_callY (n := 1) (cells' := 264) (slots' := 6394) C hX hE (fun q0 μ0 ν0 => c_l_errorOf l G q0 μ0 ν0 (3356973 : Int64) (2 : Int32) ew_1) (va_cwS 1 C.2.2.2.2.2.1 gL_texts_L_errorOf rfl rfl rfl (by decide +kernel) ⟨Nat.le_of_ble_eq_true rfl, Nat.le_of_ble_eq_true rfl⟩) rfl rfl (Nat.le_of_ble_eq_true rfl) dL_texts_10 rfl rfl (Nat.le_of_ble_eq_true rfl) (Nat.le_of_ble_eq_true rfl) ?_
  refine x_iconst (v := (2 : Int32)) C dL_texts_13 (by decide) ?_
  refine x_icmp_ne (tgt := 107) C dL_texts_14 (by decide) (fun w => absurd (by decide) w) (fun _ => ?_)
  refine x_ldc2 (v := (3484981 : Int64)) C kc_L_texts_126 dL_texts_17 ?_
  refine x_callY (n := 1) (cells' := 396) (slots' := 9591) C hX hE (fun q0 μ0 ν0 => c_l_errorOf l G q0 μ0 ν0 (3484981 : Int64) (2 : Int32) ew_2) (va_cwS 1 C.2.2.2.2.2.1 gL_texts_L_errorOf rfl rfl rfl (by decide +kernel) ⟨Nat.le_of_ble_eq_true rfl, Nat.le_of_ble_eq_true rfl⟩) rfl rfl (Nat.le_of_ble_eq_true rfl) dL_texts_20 rfl rfl (Nat.le_of_ble_eq_true rfl) (Nat.le_of_ble_eq_true rfl) ?_
  refine x_iconst (v := (2 : Int32)) C dL_texts_23 (by decide) ?_
  refine x_icmp_ne (tgt := 107) C dL_texts_24 (by decide) (fun w => absurd (by decide) w) (fun _ => ?_)
  refine x_ldc2 (v := (3484976 : Int64)) C kc_L_texts_128 dL_texts_27 ?_
  refine x_callY (n := 1) (cells' := 528) (slots' := 12788) C hX hE (fun q0 μ0 ν0 => c_l_errorOf l G q0 μ0 ν0 (3484976 : Int64) (2 : Int32) ew_3) (va_cwS 1 C.2.2.2.2.2.1 gL_texts_L_errorOf rfl rfl rfl (by decide +kernel) ⟨Nat.le_of_ble_eq_true rfl, Nat.le_of_ble_eq_true rfl⟩) rfl rfl (Nat.le_of_ble_eq_true rfl) dL_texts_30 rfl rfl (Nat.le_of_ble_eq_true rfl) (Nat.le_of_ble_eq_true rfl) ?_
  refine x_iconst (v := (2 : Int32)) C dL_texts_33 (by decide) ?_
  refine x_icmp_ne (tgt := 107) C dL_texts_34 (by decide) (fun w => absurd (by decide) w) (fun _ => ?_)
  refine x_ldc2 (v := (3484982 : Int64)) C kc_L_texts_130 dL_texts_37 ?_
  refine x_callY (n := 1) (cells' := 660) (slots' := 15985) C hX hE (fun q0 μ0 ν0 => c_l_errorOf l G q0 μ0 ν0 (3484982 : Int64) (3 : Int32) ew_4) (va_cwS 1 C.2.2.2.2.2.1 gL_texts_L_errorOf rfl rfl rfl (by decide +kernel) ⟨Nat.le_of_ble_eq_true rfl, Nat.le_of_ble_eq_true rfl⟩) rfl rfl (Nat.le_of_ble_eq_true rfl) dL_texts_40 rfl rfl (Nat.le_of_ble_eq_true rfl) (Nat.le_of_ble_eq_true rfl) ?_
  refine x_iconst (v := (3 : Int32)) C dL_texts_43 (by decide) ?_
  refine x_icmp_ne (tgt := 107) C dL_texts_44 (by decide) (fun w => absurd (by decide) w) (fun _ => ?_)
  refine x_ldc2 (v := (842018097 : Int64)) C kc_L_texts_132 dL_texts_47 ?_
  refine x_callY (n := 1) (cells' := 792) (slots' := 19182) C hX hE (fun q0 μ0 ν0 => c_l_errorOf l G q0 μ0 ν0 (842018097 : Int64) (3 : Int32) ew_5) (va_cwS 1 C.2.2.2.2.2.1 gL_texts_L_errorOf rfl rfl rfl (by decide +kernel) ⟨Nat.le_of_ble_eq_true rfl, Nat.le_of_ble_eq_true rfl⟩) rfl rfl (Nat.le_of_ble_eq_true rfl) dL_texts_50 rfl rfl (Nat.le_of_ble_eq_true rfl) (Nat.le_of_ble_eq_true rfl) ?_
  refine x_iconst (v := (3 : Int32)) C dL_texts_53 (by decide) ?_
  refine x_icmp_ne (tgt := 107) C dL_texts_54 (by decide) (fun w => absurd (by decide) w) (fun _ => ?_)
  refine x_ldc2 (v := (215556633147 : Int64)) C kc_L_texts_134 dL_texts_57 ?_
  refine x_callY (n := 1) (cells' := 924) (slots' := 22379) C hX hE (fun q0 μ0 ν0 => c_l_errorOf l G q0 μ0 ν0 (215556633147 : Int64) (4 : Int32) ew_6) (va_cwS 1 C.2.2.2.2.2.1 gL_texts_L_errorOf rfl rfl rfl (by decide +kernel) ⟨Nat.le_of_ble_eq_true rfl, Nat.le_of_ble_eq_true rfl⟩) rfl rfl (Nat.le_of_ble_eq_true rfl) dL_texts_60 rfl rfl (Nat.le_of_ble_eq_true rfl) (Nat.le_of_ble_eq_true rfl) ?_
  refine x_iconst (v := (4 : Int32)) C dL_texts_63 (by decide) ?_
  refine x_icmp_ne (tgt := 107) C dL_texts_64 (by decide) (fun w => absurd (by decide) w) (fun _ => ?_)
  refine x_ldc2 (v := (215556633136 : Int64)) C kc_L_texts_136 dL_texts_67 ?_
  refine x_callY (n := 1) (cells' := 1056) (slots' := 25576) C hX hE (fun q0 μ0 ν0 => c_l_errorOf l G q0 μ0 ν0 (215556633136 : Int64) (4 : Int32) ew_7) (va_cwS 1 C.2.2.2.2.2.1 gL_texts_L_errorOf rfl rfl rfl (by decide +kernel) ⟨Nat.le_of_ble_eq_true rfl, Nat.le_of_ble_eq_true rfl⟩) rfl rfl (Nat.le_of_ble_eq_true rfl) dL_texts_70 rfl rfl (Nat.le_of_ble_eq_true rfl) (Nat.le_of_ble_eq_true rfl) ?_
  refine x_iconst (v := (4 : Int32)) C dL_texts_73 (by decide) ?_
  refine x_icmp_ne (tgt := 107) C dL_texts_74 (by decide) (fun w => absurd (by decide) w) (fun _ => ?_)
  refine x_ldc2 (v := (842018098 : Int64)) C kc_L_texts_138 dL_texts_77 ?_
  refine x_callY (n := 1) (cells' := 1188) (slots' := 28773) C hX hE (fun q0 μ0 ν0 => c_l_errorOf l G q0 μ0 ν0 (842018098 : Int64) (4 : Int32) ew_8) (va_cwS 1 C.2.2.2.2.2.1 gL_texts_L_errorOf rfl rfl rfl (by decide +kernel) ⟨Nat.le_of_ble_eq_true rfl, Nat.le_of_ble_eq_true rfl⟩) rfl rfl (Nat.le_of_ble_eq_true rfl) dL_texts_80 rfl rfl (Nat.le_of_ble_eq_true rfl) (Nat.le_of_ble_eq_true rfl) ?_
  refine x_iconst (v := (4 : Int32)) C dL_texts_83 (by decide) ?_
  refine x_icmp_ne (tgt := 107) C dL_texts_84 (by decide) (fun w => absurd (by decide) w) (fun _ => ?_)
  refine x_ldc2 (v := (215556633137 : Int64)) C kc_L_texts_140 dL_texts_87 ?_
  refine x_callY (n := 1) (cells' := 1320) (slots' := 31970) C hX hE (fun q0 μ0 ν0 => c_l_errorOf l G q0 μ0 ν0 (215556633137 : Int64) (5 : Int32) ew_9) (va_cwS 1 C.2.2.2.2.2.1 gL_texts_L_errorOf rfl rfl rfl (by decide +kernel) ⟨Nat.le_of_ble_eq_true rfl, Nat.le_of_ble_eq_true rfl⟩) rfl rfl (Nat.le_of_ble_eq_true rfl) dL_texts_90 rfl rfl (Nat.le_of_ble_eq_true rfl) (Nat.le_of_ble_eq_true rfl) ?_
  refine x_iconst (v := (5 : Int32)) C dL_texts_93 (by decide) ?_
  refine x_icmp_ne (tgt := 107) C dL_texts_94 (by decide) (fun w => absurd (by decide) w) (fun _ => ?_)
  refine x_ldc2 (v := (892154171 : Int64)) C kc_L_texts_142 dL_texts_97 ?_
  refine x_callY (n := 1) (cells' := 1452) (slots' := 35167) C hX hE (fun q0 μ0 ν0 => c_l_errorOf l G q0 μ0 ν0 (892154171 : Int64) (3 : Int32) ew_10) (va_cwS 1 C.2.2.2.2.2.1 gL_texts_L_errorOf rfl rfl rfl (by decide +kernel) ⟨Nat.le_of_ble_eq_true rfl, Nat.le_of_ble_eq_true rfl⟩) rfl rfl (Nat.le_of_ble_eq_true rfl) dL_texts_100 rfl rfl (Nat.le_of_ble_eq_true rfl) (Nat.le_of_ble_eq_true rfl) ?_
  refine x_iconst (v := (3 : Int32)) C dL_texts_103 (by decide) ?_
  refine x_icmp_eq (tgt := 109) C dL_texts_104 (by decide) (fun _ => ?_) (fun w => absurd (by decide) w)
  refine x_ldc2 (v := (3484977 : Int64)) C kc_L_texts_144 dL_texts_109 ?_
  refine x_callY (n := 1) (cells' := 1584) (slots' := 38364) C hX hE (fun q0 μ0 ν0 => c_l_errorOf l G q0 μ0 ν0 (3484977 : Int64) (3 : Int32) ew_11) (va_cwS 1 C.2.2.2.2.2.1 gL_texts_L_errorOf rfl rfl rfl (by decide +kernel) ⟨Nat.le_of_ble_eq_true rfl, Nat.le_of_ble_eq_true rfl⟩) rfl rfl (Nat.le_of_ble_eq_true rfl) dL_texts_112 rfl rfl (Nat.le_of_ble_eq_true rfl) (Nat.le_of_ble_eq_true rfl) ?_
  refine x_iconst (v := (3 : Int32)) C dL_texts_115 (by decide) ?_
  refine x_icmp_ne (tgt := 219) C dL_texts_116 (by decide) (fun w => absurd (by decide) w) (fun _ => ?_)
  refine x_ldc2 (v := (58468215056436 : Int64)) C kc_L_texts_146 dL_texts_119 ?_
  refine x_callY (n := 1) (cells' := 1716) (slots' := 41561) C hX hE (fun q0 μ0 ν0 => c_l_errorOf l G q0 μ0 ν0 (58468215056436 : Int64) (5 : Int32) ew_12) (va_cwS 1 C.2.2.2.2.2.1 gL_texts_L_errorOf rfl rfl rfl (by decide +kernel) ⟨Nat.le_of_ble_eq_true rfl, Nat.le_of_ble_eq_true rfl⟩) rfl rfl (Nat.le_of_ble_eq_true rfl) dL_texts_122 rfl rfl (Nat.le_of_ble_eq_true rfl) (Nat.le_of_ble_eq_true rfl) ?_
  refine x_iconst (v := (5 : Int32)) C dL_texts_125 (by decide) ?_
  refine x_icmp_ne (tgt := 219) C dL_texts_126 (by decide) (fun w => absurd (by decide) w) (fun _ => ?_)
  refine x_ldc2 (v := (3500083 : Int64)) C kc_L_texts_148 dL_texts_129 ?_
  refine x_callY (n := 1) (cells' := 1848) (slots' := 44758) C hX hE (fun q0 μ0 ν0 => c_l_errorOf l G q0 μ0 ν0 (3500083 : Int64) (3 : Int32) ew_13) (va_cwS 1 C.2.2.2.2.2.1 gL_texts_L_errorOf rfl rfl rfl (by decide +kernel) ⟨Nat.le_of_ble_eq_true rfl, Nat.le_of_ble_eq_true rfl⟩) rfl rfl (Nat.le_of_ble_eq_true rfl) dL_texts_132 rfl rfl (Nat.le_of_ble_eq_true rfl) (Nat.le_of_ble_eq_true rfl) ?_
  refine x_iconst (v := (3 : Int32)) C dL_texts_135 (by decide) ?_
  refine x_icmp_ne (tgt := 219) C dL_texts_136 (by decide) (fun w => absurd (by decide) w) (fun _ => ?_)
  refine x_ldc2 (v := (12343 : Int64)) C kc_L_texts_150 dL_texts_139 ?_
  refine x_callY (n := 1) (cells' := 1980) (slots' := 47955) C hX hE (fun q0 μ0 ν0 => c_l_errorOf l G q0 μ0 ν0 (12343 : Int64) (1 : Int32) ew_14) (va_cwS 1 C.2.2.2.2.2.1 gL_texts_L_errorOf rfl rfl rfl (by decide +kernel) ⟨Nat.le_of_ble_eq_true rfl, Nat.le_of_ble_eq_true rfl⟩) rfl rfl (Nat.le_of_ble_eq_true rfl) dL_texts_142 rfl rfl (Nat.le_of_ble_eq_true rfl) (Nat.le_of_ble_eq_true rfl) ?_
  refine x_iconst (v := (1 : Int32)) C dL_texts_145 (by decide) ?_
  refine x_icmp_ne (tgt := 219) C dL_texts_146 (by decide) (fun w => absurd (by decide) w) (fun _ => ?_)
  refine x_ldc2 (v := (13360 : Int64)) C kc_L_texts_152 dL_texts_149 ?_
  refine x_callY (n := 1) (cells' := 2112) (slots' := 51152) C hX hE (fun q0 μ0 ν0 => c_l_errorOf l G q0 μ0 ν0 (13360 : Int64) (1 : Int32) ew_15) (va_cwS 1 C.2.2.2.2.2.1 gL_texts_L_errorOf rfl rfl rfl (by decide +kernel) ⟨Nat.le_of_ble_eq_true rfl, Nat.le_of_ble_eq_true rfl⟩) rfl rfl (Nat.le_of_ble_eq_true rfl) dL_texts_152 rfl rfl (Nat.le_of_ble_eq_true rfl) (Nat.le_of_ble_eq_true rfl) ?_
  refine x_iconst (v := (1 : Int32)) C dL_texts_155 (by decide) ?_
  refine x_icmp_ne (tgt := 219) C dL_texts_156 (by decide) (fun w => absurd (by decide) w) (fun _ => ?_)
  refine x_ldc2 (v := (52970691061811 : Int64)) C kc_L_texts_154 dL_texts_159 ?_
  refine x_callY (n := 1) (cells' := 2244) (slots' := 54349) C hX hE (fun q0 μ0 ν0 => c_l_errorOf l G q0 μ0 ν0 (52970691061811 : Int64) (6 : Int32) ew_16) (va_cwS 1 C.2.2.2.2.2.1 gL_texts_L_errorOf rfl rfl rfl (by decide +kernel) ⟨Nat.le_of_ble_eq_true rfl, Nat.le_of_ble_eq_true rfl⟩) rfl rfl (Nat.le_of_ble_eq_true rfl) dL_texts_162 rfl rfl (Nat.le_of_ble_eq_true rfl) (Nat.le_of_ble_eq_true rfl) ?_
  refine x_bipush (v := (6 : Int32)) C dL_texts_165 (by decide) ?_
  refine x_icmp_ne (tgt := 219) C dL_texts_167 (by decide) (fun w => absurd (by decide) w) (fun _ => ?_)
  refine x_ldc2 (v := (862466363 : Int64)) C kc_L_texts_156 dL_texts_170 ?_
  refine x_callY (n := 1) (cells' := 2376) (slots' := 57546) C hX hE (fun q0 μ0 ν0 => c_l_errorOf l G q0 μ0 ν0 (862466363 : Int64) (4 : Int32) ew_17) (va_cwS 1 C.2.2.2.2.2.1 gL_texts_L_errorOf rfl rfl rfl (by decide +kernel) ⟨Nat.le_of_ble_eq_true rfl, Nat.le_of_ble_eq_true rfl⟩) rfl rfl (Nat.le_of_ble_eq_true rfl) dL_texts_173 rfl rfl (Nat.le_of_ble_eq_true rfl) (Nat.le_of_ble_eq_true rfl) ?_
  refine x_iconst (v := (4 : Int32)) C dL_texts_176 (by decide) ?_
  refine x_icmp_ne (tgt := 219) C dL_texts_177 (by decide) (fun w => absurd (by decide) w) (fun _ => ?_)
  refine x_ldc2 (v := (892154216 : Int64)) C kc_L_texts_158 dL_texts_180 ?_
  refine x_callY (n := 1) (cells' := 2508) (slots' := 60743) C hX hE (fun q0 μ0 ν0 => c_l_errorOf l G q0 μ0 ν0 (892154216 : Int64) (3 : Int32) ew_18) (va_cwS 1 C.2.2.2.2.2.1 gL_texts_L_errorOf rfl rfl rfl (by decide +kernel) ⟨Nat.le_of_ble_eq_true rfl, Nat.le_of_ble_eq_true rfl⟩) rfl rfl (Nat.le_of_ble_eq_true rfl) dL_texts_183 rfl rfl (Nat.le_of_ble_eq_true rfl) (Nat.le_of_ble_eq_true rfl) ?_
  refine x_iconst (v := (3 : Int32)) C dL_texts_186 (by decide) ?_
  refine x_icmp_ne (tgt := 219) C dL_texts_187 (by decide) (fun w => absurd (by decide) w) (fun _ => ?_)
  refine x_ldc2 (v := (104 : Int64)) C kc_L_texts_160 dL_texts_190 ?_
  refine x_callY (n := 1) (cells' := 2640) (slots' := 63940) C hX hE (fun q0 μ0 ν0 => c_l_errorOf l G q0 μ0 ν0 (104 : Int64) (0 : Int32) ew_19) (va_cwS 1 C.2.2.2.2.2.1 gL_texts_L_errorOf rfl rfl rfl (by decide +kernel) ⟨Nat.le_of_ble_eq_true rfl, Nat.le_of_ble_eq_true rfl⟩) rfl rfl (Nat.le_of_ble_eq_true rfl) dL_texts_193 rfl rfl (Nat.le_of_ble_eq_true rfl) (Nat.le_of_ble_eq_true rfl) ?_
  refine x_if_ne (tgt := 219) C dL_texts_196 (by decide) (fun w => absurd (by decide) w) (fun _ => ?_)
  refine x_ldc2 (v := (858600552 : Int64)) C kc_L_texts_162 dL_texts_199 ?_
  refine x_callY (n := 1) (cells' := 2772) (slots' := 67137) C hX hE (fun q0 μ0 ν0 => c_l_errorOf l G q0 μ0 ν0 (858600552 : Int64) (4 : Int32) ew_20) (va_cwS 1 C.2.2.2.2.2.1 gL_texts_L_errorOf rfl rfl rfl (by decide +kernel) ⟨Nat.le_of_ble_eq_true rfl, Nat.le_of_ble_eq_true rfl⟩) rfl rfl (Nat.le_of_ble_eq_true rfl) dL_texts_202 rfl rfl (Nat.le_of_ble_eq_true rfl) (Nat.le_of_ble_eq_true rfl) ?_
  refine x_iconst (v := (4 : Int32)) C dL_texts_205 (by decide) ?_
  refine x_icmp_ne (tgt := 219) C dL_texts_206 (by decide) (fun w => absurd (by decide) w) (fun _ => ?_)
  refine x_ldc2 (v := (56316369516845 : Int64)) C kc_L_texts_164 dL_texts_209 ?_
  refine x_callY (n := 1) (cells' := 2904) (slots' := 70334) C hX hE (fun q0 μ0 ν0 => c_l_errorOf l G q0 μ0 ν0 (56316369516845 : Int64) (5 : Int32) ew_21) (va_cwS 1 C.2.2.2.2.2.1 gL_texts_L_errorOf rfl rfl rfl (by decide +kernel) ⟨Nat.le_of_ble_eq_true rfl, Nat.le_of_ble_eq_true rfl⟩) rfl rfl (Nat.le_of_ble_eq_true rfl) dL_texts_212 rfl rfl (Nat.le_of_ble_eq_true rfl) (Nat.le_of_ble_eq_true rfl) ?_
  refine x_iconst (v := (5 : Int32)) C dL_texts_215 (by decide) ?_
  refine x_icmp_eq (tgt := 221) C dL_texts_216 (by decide) (fun _ => ?_) (fun w => absurd (by decide) w)
  refine x_newH (cells' := 3036) (slots' := 73531) C kn_texts kx_texts gL_texts_X2_init (by decide) (by decide) hE hq dL_texts_221 dL_texts_224 dL_texts_225 rfl rfl (Nat.le_of_ble_eq_true rfl) (Nat.le_of_ble_eq_true rfl) (fun q1 m1 h1 k1a k1b k1c hq1 => ?_)
  have R1 : Rq 0 m1 (rwN tb_0) [] := Rq_fresh k1a k1b pk_0
  have B1 : bfR 0 (fun _ => 0) m1 := ⟨k1c, by omega, fun i hi => by omega⟩
  refine x_astore_n (lv' := [(0, .ref (q1 0))]) C dL_texts_228 rfl (by decide) [0] rfl ?_
  refine x_aload_n C dL_texts_229 rfl 0 rfl ?_
  refine x_bipush (v := (8 : Int32)) C dL_texts_230 (by decide) ?_
  refine x_iconst (v := (0 : Int32)) C dL_texts_232 (by decide) ?_
  refine x_iconst (v := (0 : Int32)) C dL_texts_233 (by decide) ?_
  refine x_iconst (v := (0 : Int32)) C dL_texts_234 (by decide) ?_
  obtain ⟨y1, y2, y3⟩ := wall_X (i0 := 0) (b0 := 0) (f0 := 0) (l0 := 0) (h0 := 0) B1 (by omega) (by decide +kernel) (by decide +kernel) (by unfold pW; omega)
  refine x_callZw0 (n := 5) (shc := shH) (rest := []) (cells' := 3037) (slots' := 73537) C (List.append_nil _).symm hq1 wf_shH rfl hX (cT_writeAll_IA l hl9 G q1 m1 h1 (0 : Int32) (0 : Int32) (0 : Int32) y1 y2) (vx_cwSW 5 C.2.2.2.2.2.1 gL_texts_L_told rfl rfl rfl (by decide +kernel) ⟨Nat.le_of_ble_eq_true rfl, Nat.le_of_ble_eq_true rfl⟩) rfl rfl (Nat.le_of_ble_eq_true rfl) dL_texts_235 rfl rfl (Nat.le_of_ble_eq_true rfl) (Nat.le_of_ble_eq_true rfl) ?_
  obtain ⟨m2, hm2⟩ : ∃ y : gM, y = (fx_h_writeAll m1).2 := ⟨_, rfl⟩
  rw [← hm2] at y3
  refine x_mu2 hm2 rfl ?_
  have R2 : Rq 0 m2 (rwN tb_0) [] := Rq_same R1 (fun x x1 x2 => y3 x (by omega)) (fun x x1 x2 => y3 x (by omega)) (by rw [y3 0 (by decide)])
  have B2 : bfR 0 (fun _ => 0) m2 := ⟨by rw [y3 0 (by decide)]; exact B1.1, B1.2.1, fun i hi => by rw [y3 2 (by decide)]; exact B1.2.2 i hi⟩
  clear y1 y2 y3 hm2
  refine x_bipush (v := (-12 : Int32)) C dL_texts_238 (by decide) ?_
  refine x_icmp_ne (tgt := 367) C dL_texts_240 (by decide) (fun w => absurd (by decide) w) (fun _ => ?_)
  refine x_aload_n C dL_texts_243 rfl 0 rfl ?_
  refine x_ldc2 (v := (3471487410368098875 : Int64)) C kc_L_texts_166 dL_texts_244 ?_
  obtain ⟨y1, y2, y3, y4, y5⟩ := types_w (w := (3471487410368098875 : Int64)) (bs := (fun n => [48, 45, 51, 104, 49, 59, 50, 59].getD n 0)) B2 (by omega) (by decide +kernel) (by decide +kernel)
  refine x_callSi (n := 2) C hq1 gFr_same (c_l_types l G q1 m2 h1 (3471487410368098875 : Int64) y1) (va_cwS 2 C.2.2.2.2.2.1 gL_texts_L_types rfl rfl rfl (by decide +kernel) ⟨Nat.le_of_ble_eq_true rfl, Nat.le_of_ble_eq_true rfl⟩) rfl rfl (Nat.le_of_ble_eq_true rfl) dL_texts_247 (Nat.le_of_ble_eq_true rfl) (Nat.le_of_ble_eq_true rfl) ?_
  refine x_topi (z := (1 : Int32)) y2.symm ?_
  obtain ⟨m3, hm3⟩ : ∃ y : gM, y = (f_l_types m2 (3471487410368098875 : Int64)).2 := ⟨_, rfl⟩
  rw [← hm3] at y3 y4 y5
  refine x_mu2 hm3 rfl ?_
  have R3 : Rq 0 m3 (rwN tb_0) [] := Rq_same R2 (fun x x1 x2 => y4 x (by omega) (by omega)) (fun x x1 x2 => y4 x (by omega) (by omega)) (y5 3 (by decide))
  have B3 : bfR 8 (fun i => [48, 45, 51, 104, 49, 59, 50, 59].getD i 0) m3 := bfR_eq y3 (by decide +kernel) (by decide +kernel)
  clear y1 y2 y3 y4 y5 hm3
  refine x_if_eq (tgt := 367) C dL_texts_250 (by decide) (fun w => absurd w (by decide)) (fun _ => ?_)
  refine x_aload_n C dL_texts_253 rfl 0 rfl ?_
  refine x_bipush (v := (8 : Int32)) C dL_texts_254 (by decide) ?_
  refine x_iconst (v := (0 : Int32)) C dL_texts_256 (by decide) ?_
  refine x_iconst (v := (0 : Int32)) C dL_texts_257 (by decide) ?_
  refine x_iconst (v := (0 : Int32)) C dL_texts_258 (by decide) ?_
  obtain ⟨y1, y2, y3⟩ := wall_X (i0 := 8) (b0 := 0) (f0 := 2) (l0 := 2) (h0 := 0) B3 (by omega) (by decide +kernel) (by decide +kernel) (by unfold pW; omega)
  refine x_callZw0 (n := 5) (shc := shH) (rest := []) (cells' := 3038) (slots' := 73543) C (List.append_nil _).symm hq1 wf_shH rfl hX (cT_writeAll_IA l hl9 G q1 m3 h1 (0 : Int32) (0 : Int32) (0 : Int32) y1 y2) (vx_cwSW 5 C.2.2.2.2.2.1 gL_texts_L_told rfl rfl rfl (by decide +kernel) ⟨Nat.le_of_ble_eq_true rfl, Nat.le_of_ble_eq_true rfl⟩) rfl rfl (Nat.le_of_ble_eq_true rfl) dL_texts_259 rfl rfl (Nat.le_of_ble_eq_true rfl) (Nat.le_of_ble_eq_true rfl) ?_
  obtain ⟨m4, hm4⟩ : ∃ y : gM, y = (fx_h_writeAll m3).2 := ⟨_, rfl⟩
  rw [← hm4] at y3
  refine x_mu2 hm4 rfl ?_
  have R4 : Rq 0 m4 (rwN tb_0) [] := Rq_same R3 (fun x x1 x2 => y3 x (by omega)) (fun x x1 x2 => y3 x (by omega)) (by rw [y3 0 (by decide)])
  have B4 : bfR 8 (fun i => [48, 45, 51, 104, 49, 59, 50, 59].getD i 0) m4 := ⟨by rw [y3 0 (by decide)]; exact B3.1, B3.2.1, fun i hi => by rw [y3 2 (by decide)]; exact B3.2.2 i hi⟩
  clear y1 y2 y3 hm4
  refine x_bipush (v := (-12 : Int32)) C dL_texts_262 (by decide) ?_
  refine x_icmp_ne (tgt := 367) C dL_texts_264 (by decide) (fun w => absurd (by decide) w) (fun _ => ?_)
  refine x_aload_n C dL_texts_267 rfl 0 rfl ?_
  refine x_ldc2 (v := (48 : Int64)) C kc_L_texts_168 dL_texts_268 ?_
  obtain ⟨y1, y2, y3, y4, y5⟩ := types_w (w := (48 : Int64)) (bs := (fun n => [0, 0, 0, 0, 0, 0, 0, 48].getD n 0)) B4 (by omega) (by decide +kernel) (by decide +kernel)
  refine x_callSi (n := 2) C hq1 gFr_same (c_l_types l G q1 m4 h1 (48 : Int64) y1) (va_cwS 2 C.2.2.2.2.2.1 gL_texts_L_types rfl rfl rfl (by decide +kernel) ⟨Nat.le_of_ble_eq_true rfl, Nat.le_of_ble_eq_true rfl⟩) rfl rfl (Nat.le_of_ble_eq_true rfl) dL_texts_271 (Nat.le_of_ble_eq_true rfl) (Nat.le_of_ble_eq_true rfl) ?_
  refine x_topi (z := (1 : Int32)) y2.symm ?_
  obtain ⟨m5, hm5⟩ : ∃ y : gM, y = (f_l_types m4 (48 : Int64)).2 := ⟨_, rfl⟩
  rw [← hm5] at y3 y4 y5
  refine x_mu2 hm5 rfl ?_
  have R5 : Rq 0 m5 (rwN tb_0) [] := Rq_same R4 (fun x x1 x2 => y4 x (by omega) (by omega)) (fun x x1 x2 => y4 x (by omega) (by omega)) (y5 3 (by decide))
  have B5 : bfR 9 (fun i => [48, 45, 51, 104, 49, 59, 50, 59, 48].getD i 0) m5 := bfR_eq y3 (by decide +kernel) (by decide +kernel)
  clear y1 y2 y3 y4 y5 hm5
  refine x_if_eq (tgt := 367) C dL_texts_274 (by decide) (fun w => absurd w (by decide)) (fun _ => ?_)
  refine x_aload_n C dL_texts_277 rfl 0 rfl ?_
  obtain ⟨y1, y2, y3, y4⟩ := pk_120 R5 B5
  refine x_callVpi (n := 0) (n4 := 4) C hq1 (c_h_writeAll l G q1 m5 h1 y1) (cwV 0 C.2.2.2.2.2.1 gL_texts_X2_writeAll rfl rfl rfl (by decide +kernel) ⟨Nat.le_of_ble_eq_true rfl, Nat.le_of_ble_eq_true rfl⟩) rfl rfl rfl rfl (Nat.le_of_ble_eq_true rfl) dL_texts_278 (Nat.le_of_ble_eq_true rfl) (Nat.le_of_ble_eq_true rfl) (fun q6 e6 hq6 => ?_)
  refine x_topi (z := (6 : Int32)) y2.symm ?_
  obtain ⟨m6, hm6⟩ : ∃ y : gM, y = (f_h_writeAll m5).2 := ⟨_, rfl⟩
  rw [← hm6] at y3 y4
  refine x_mu2 hm6 rfl ?_
  rw [pus_lt (by decide)] at y3
  have R6 : Rq 582 m6 (rwN tb_21) [rwN tb_0] := y3
  have B6 : bfR 0 (fun _ => 0) m6 := ⟨y4, by omega, fun i hi => by omega⟩
  clear y1 y2 y3 y4 hm6
  refine x_lve (lv' := [(0, .ref (q6 0))]) (by rw [e6 0 (by decide)]) ?_
  refine x_bipush (v := (6 : Int32)) C dL_texts_281 (by decide) ?_
  refine x_icmp_ne (tgt := 367) C dL_texts_283 (by decide) (fun w => absurd (by decide) w) (fun _ => ?_)
  refine x_aload_n C dL_texts_286 rfl 0 rfl ?_
  refine x_bipush (v := (11 : Int32)) C dL_texts_287 (by decide) ?_
  refine x_callVi (n := 1) C hq6 gFr_same (c_h_count l G q6 m6 h1 (11 : Int32) (count11Q R6).1) (cwV 1 C.2.2.2.2.2.1 gL_texts_X2_count rfl rfl rfl (by decide +kernel) ⟨Nat.le_of_ble_eq_true rfl, Nat.le_of_ble_eq_true rfl⟩) rfl rfl rfl rfl (Nat.le_of_ble_eq_true rfl) dL_texts_289 (Nat.le_of_ble_eq_true rfl) (Nat.le_of_ble_eq_true rfl) ?_
  refine x_topi (z := (1 : Int32)) (count11Q R6).2.symm ?_
  refine x_iconst (v := (1 : Int32)) C dL_texts_292 (by decide) ?_
  refine x_icmp_ne (tgt := 367) C dL_texts_293 (by decide) (fun w => absurd (by decide) w) (fun _ => ?_)
  refine x_aload_n C dL_texts_296 rfl 0 rfl ?_
  obtain ⟨y1, y2, y3, y4, y5⟩ := clear_b B6
  refine x_callVi (n := 0) C hq6 gFr_same (c_h_clearBuffer l G q6 m6 h1 y1) (cwV 0 C.2.2.2.2.2.1 gL_texts_X2_clearBuffer rfl rfl rfl (by decide +kernel) ⟨Nat.le_of_ble_eq_true rfl, Nat.le_of_ble_eq_true rfl⟩) rfl rfl rfl rfl (Nat.le_of_ble_eq_true rfl) dL_texts_297 (Nat.le_of_ble_eq_true rfl) (Nat.le_of_ble_eq_true rfl) ?_
  refine x_topi (z := (0 : Int32)) y2.symm ?_
  obtain ⟨m7, hm7⟩ : ∃ y : gM, y = (f_h_clearBuffer m6).2 := ⟨_, rfl⟩
  refine x_mu2 hm7 rfl ?_
  rw [← hm7] at y3 y4 y5
  have R7 : Rq 582 m7 (rwN tb_21) [rwN tb_0] := Rq_same R6 (fun x x1 x2 => y4 x (by omega)) (fun x x1 x2 => y4 x (by omega)) (y5 3 (by decide))
  have B7 : bfR 0 (fun _ => 0) m7 := y3
  clear y1 y2 y3 y4 y5 hm7
  refine x_if_ne (tgt := 367) C dL_texts_300 (by decide) (fun w => absurd (by decide) w) (fun _ => ?_)
  refine x_aload_n C dL_texts_303 rfl 0 rfl ?_
  refine x_iconst (v := (0 : Int32)) C dL_texts_304 (by decide) ?_
  refine x_callVi (n := 1) C hq6 gFr_same (c_h_count l G q6 m7 h1 (0 : Int32) (pk_121 R7 (by decide)).1) (cwV 1 C.2.2.2.2.2.1 gL_texts_X2_count rfl rfl rfl (by decide +kernel) ⟨Nat.le_of_ble_eq_true rfl, Nat.le_of_ble_eq_true rfl⟩) rfl rfl rfl rfl (Nat.le_of_ble_eq_true rfl) dL_texts_305 (Nat.le_of_ble_eq_true rfl) (Nat.le_of_ble_eq_true rfl) ?_
  refine x_topi (z := (4 : Int32)) (pk_121 R7 (by decide)).2.symm ?_
  refine x_iconst (v := (4 : Int32)) C dL_texts_308 (by decide) ?_
  refine x_icmp_ne (tgt := 367) C dL_texts_309 (by decide) (fun w => absurd (by decide) w) (fun _ => ?_)
  refine x_aload_n C dL_texts_312 rfl 0 rfl ?_
  refine x_bipush (v := (6 : Int32)) C dL_texts_313 (by decide) ?_
  refine x_callVi (n := 1) C hq6 gFr_same (c_h_count l G q6 m7 h1 (6 : Int32) (pk_122 R7 (by decide)).1) (cwV 1 C.2.2.2.2.2.1 gL_texts_X2_count rfl rfl rfl (by decide +kernel) ⟨Nat.le_of_ble_eq_true rfl, Nat.le_of_ble_eq_true rfl⟩) rfl rfl rfl rfl (Nat.le_of_ble_eq_true rfl) dL_texts_315 (Nat.le_of_ble_eq_true rfl) (Nat.le_of_ble_eq_true rfl) ?_
  refine x_topi (z := (6 : Int32)) (pk_122 R7 (by decide)).2.symm ?_
  refine x_bipush (v := (6 : Int32)) C dL_texts_318 (by decide) ?_
  refine x_icmp_ne (tgt := 367) C dL_texts_320 (by decide) (fun w => absurd (by decide) w) (fun _ => ?_)
  refine x_aload_n C dL_texts_323 rfl 0 rfl ?_
  refine x_iconst (v := (0 : Int32)) C dL_texts_324 (by decide) ?_
  refine x_iconst (v := (2 : Int32)) C dL_texts_325 (by decide) ?_
  refine x_callVi (n := 2) C hq6 gFr_same (c_h_page l G q6 m7 h1 (0 : Int32) (2 : Int32) (pk_123 R7 (by decide)).1) (cwV 2 C.2.2.2.2.2.1 gL_texts_X2_page rfl rfl rfl (by decide +kernel) ⟨Nat.le_of_ble_eq_true rfl, Nat.le_of_ble_eq_true rfl⟩) rfl rfl rfl rfl (Nat.le_of_ble_eq_true rfl) dL_texts_326 (Nat.le_of_ble_eq_true rfl) (Nat.le_of_ble_eq_true rfl) ?_
  refine x_topi (z := (0 : Int32)) (pk_123 R7 (by decide)).2.symm ?_
  refine x_if_ne (tgt := 367) C dL_texts_329 (by decide) (fun w => absurd (by decide) w) (fun _ => ?_)
  refine x_aload_n C dL_texts_332 rfl 0 rfl ?_
  refine x_iconst (v := (1 : Int32)) C dL_texts_333 (by decide) ?_
  refine x_iconst (v := (2 : Int32)) C dL_texts_334 (by decide) ?_
  refine x_callVi (n := 2) C hq6 gFr_same (c_h_page l G q6 m7 h1 (1 : Int32) (2 : Int32) (pk_124 R7 (by decide)).1) (cwV 2 C.2.2.2.2.2.1 gL_texts_X2_page rfl rfl rfl (by decide +kernel) ⟨Nat.le_of_ble_eq_true rfl, Nat.le_of_ble_eq_true rfl⟩) rfl rfl rfl rfl (Nat.le_of_ble_eq_true rfl) dL_texts_335 (Nat.le_of_ble_eq_true rfl) (Nat.le_of_ble_eq_true rfl) ?_
  refine x_topi (z := (1 : Int32)) (pk_124 R7 (by decide)).2.symm ?_
  refine x_iconst (v := (1 : Int32)) C dL_texts_338 (by decide) ?_
  refine x_icmp_ne (tgt := 367) C dL_texts_339 (by decide) (fun w => absurd (by decide) w) (fun _ => ?_)
  refine x_aload_n C dL_texts_342 rfl 0 rfl ?_
  refine x_iconst (v := (2 : Int32)) C dL_texts_343 (by decide) ?_
  refine x_iconst (v := (3 : Int32)) C dL_texts_344 (by decide) ?_
  refine x_callVi (n := 2) C hq6 gFr_same (c_h_page l G q6 m7 h1 (2 : Int32) (3 : Int32) (pk_125 R7 (by decide)).1) (cwV 2 C.2.2.2.2.2.1 gL_texts_X2_page rfl rfl rfl (by decide +kernel) ⟨Nat.le_of_ble_eq_true rfl, Nat.le_of_ble_eq_true rfl⟩) rfl rfl rfl rfl (Nat.le_of_ble_eq_true rfl) dL_texts_345 (Nat.le_of_ble_eq_true rfl) (Nat.le_of_ble_eq_true rfl) ?_
  refine x_topi (z := (2 : Int32)) (pk_125 R7 (by decide)).2.symm ?_
  refine x_iconst (v := (2 : Int32)) C dL_texts_348 (by decide) ?_
  refine x_icmp_ne (tgt := 367) C dL_texts_349 (by decide) (fun w => absurd (by decide) w) (fun _ => ?_)
  refine x_aload_n C dL_texts_352 rfl 0 rfl ?_
  have z5 : (f_h_undo m7).2 0 5 = m7 0 5 := (undoQ (rs := []) (f := rwN tb_0) R7).2.2.2.2 5 (by decide)
  rw [B7.1] at z5
  obtain ⟨y1, y2, y3, -, -⟩ := undoQ (rs := []) (f := rwN tb_0) R7
  refine x_callVpi (n := 0) (n4 := 4) C hq6 (c_h_undo l G q6 m7 h1 y1) (cwV 0 C.2.2.2.2.2.1 gL_texts_X2_undo rfl rfl rfl (by decide +kernel) ⟨Nat.le_of_ble_eq_true rfl, Nat.le_of_ble_eq_true rfl⟩) rfl rfl rfl rfl (Nat.le_of_ble_eq_true rfl) dL_texts_353 (Nat.le_of_ble_eq_true rfl) (Nat.le_of_ble_eq_true rfl) (fun q8 e8 hq8 => ?_)
  refine x_topi (z := (0 : Int32)) y2.symm ?_
  obtain ⟨m8, hm8⟩ : ∃ y : gM, y = (f_h_undo m7).2 := ⟨_, rfl⟩
  rw [← hm8] at y3
  refine x_mu2 hm8 rfl ?_
  have R8 : Rq 582 m8 (rwN tb_0) [] := y3
  rw [← hm8] at z5
  clear y1 y2 y3 hm8
  refine x_lve (lv' := [(0, .ref (q8 0))]) (by rw [e8 0 (by decide)]) ?_
  have B8 : bfR 0 (fun _ => 0) m8 := ⟨z5, by omega, fun i hi => by omega⟩
  refine x_if_ne (tgt := 367) C dL_texts_356 (by decide) (fun w => absurd (by decide) w) (fun _ => ?_)
  refine x_aload_n C dL_texts_359 rfl 0 rfl ?_
  refine x_iconst (v := (0 : Int32)) C dL_texts_360 (by decide) ?_
  refine x_callVi (n := 1) C hq8 gFr_same (c_h_count l G q8 m8 h1 (0 : Int32) (pk_126 R8 (by decide)).1) (cwV 1 C.2.2.2.2.2.1 gL_texts_X2_count rfl rfl rfl (by decide +kernel) ⟨Nat.le_of_ble_eq_true rfl, Nat.le_of_ble_eq_true rfl⟩) rfl rfl rfl rfl (Nat.le_of_ble_eq_true rfl) dL_texts_361 (Nat.le_of_ble_eq_true rfl) (Nat.le_of_ble_eq_true rfl) ?_
  refine x_topi (z := (0 : Int32)) (pk_126 R8 (by decide)).2.symm ?_
  refine x_if_eq (tgt := 369) C dL_texts_364 (by decide) (fun _ => ?_) (fun w => absurd (by decide) w)
  refine x_iconst (v := (0 : Int32)) C dL_texts_369 (by decide) ?_
  refine x_istore_n (lv' := [(0, .ref (q8 0)), (1, .int (0 : Int32))]) C dL_texts_370 rfl (by decide) [1, 0] rfl ?_
  have B0 : bfR 0 (fun _ => 55) m8 := ⟨B8.1, by omega, fun i hi => by omega⟩
  refine texts_loop C hq8 (cells := 3038) (slots := 73543) (Nat.le_of_ble_eq_true rfl) (Nat.le_of_ble_eq_true rfl) 60 0 rfl B0 (fun m9 B9 => ?_)
  refine x_aload_n C dL_texts_397 rfl 0 rfl ?_
  refine x_bipush (v := (7 : Int32)) C dL_texts_398 (by decide) ?_
  refine x_bipush (v := (55 : Int32)) C dL_texts_400 (by decide) ?_
  refine x_iconst (v := (0 : Int32)) C dL_texts_402 (by decide) ?_
  refine x_iconst (v := (0 : Int32)) C dL_texts_403 (by decide) ?_
  refine x_callZw0 (n := 5) (shc := shH) (rest := []) (cells' := 3039) (slots' := 73549) C (List.append_nil _).symm hq8 wf_shH rfl hX (cT_append_IS l hl9 G q8 m9 h1 (55 : Int32) (0 : Int32) (0 : Int32) (full_X (c := 55) B9 (by omega) (by omega)).1 (full_X (c := 55) B9 (by omega) (by omega)).2) (vx_cwSW 5 C.2.2.2.2.2.1 gL_texts_L_told rfl rfl rfl (by decide +kernel) ⟨Nat.le_of_ble_eq_true rfl, Nat.le_of_ble_eq_true rfl⟩) rfl rfl (Nat.le_of_ble_eq_true rfl) dL_texts_404 rfl rfl (Nat.le_of_ble_eq_true rfl) (Nat.le_of_ble_eq_true rfl) ?_
  refine x_bipush (v := (-13 : Int32)) C dL_texts_407 (by decide) ?_
  refine x_icmp_ne (tgt := 448) C dL_texts_409 (by decide) (fun w => absurd (by decide) w) (fun _ => ?_)
  refine x_aload_n C dL_texts_412 rfl 0 rfl ?_
  refine x_bipush (v := (7 : Int32)) C dL_texts_413 (by decide) ?_
  refine x_bipush (v := (32 : Int32)) C dL_texts_415 (by decide) ?_
  refine x_iconst (v := (0 : Int32)) C dL_texts_417 (by decide) ?_
  refine x_iconst (v := (0 : Int32)) C dL_texts_418 (by decide) ?_
  refine x_callZw0 (n := 5) (shc := shH) (rest := []) (cells' := 3040) (slots' := 73555) C (List.append_nil _).symm hq8 wf_shH rfl hX (cT_append_IA l hl9 G q8 m9 h1 (32 : Int32) (0 : Int32) (0 : Int32) (rx_append_32 _).1 (rx_append_32 _).2) (vx_cwSW 5 C.2.2.2.2.2.1 gL_texts_L_told rfl rfl rfl (by decide +kernel) ⟨Nat.le_of_ble_eq_true rfl, Nat.le_of_ble_eq_true rfl⟩) rfl rfl (Nat.le_of_ble_eq_true rfl) dL_texts_419 rfl rfl (Nat.le_of_ble_eq_true rfl) (Nat.le_of_ble_eq_true rfl) ?_
  refine x_bipush (v := (-12 : Int32)) C dL_texts_422 (by decide) ?_
  refine x_icmp_ne (tgt := 448) C dL_texts_424 (by decide) (fun w => absurd (by decide) w) (fun _ => ?_)
  refine x_aload_n C dL_texts_427 rfl 0 rfl ?_
  obtain ⟨y1, y2, y3⟩ := err_at (i0 := 1) (b0 := 1) (f0 := 7) (l0 := 7) (h0 := 0) B9 (by omega) (by decide +kernel) (by decide +kernel)
  refine x_callVi (n := 0) C hq8 gFr_same (c_h_firstError l G q8 m9 h1 y1) (cwV 0 C.2.2.2.2.2.1 gL_texts_X2_firstError rfl rfl rfl (by decide +kernel) ⟨Nat.le_of_ble_eq_true rfl, Nat.le_of_ble_eq_true rfl⟩) rfl rfl rfl rfl (Nat.le_of_ble_eq_true rfl) dL_texts_428 (Nat.le_of_ble_eq_true rfl) (Nat.le_of_ble_eq_true rfl) ?_
  refine x_topi (z := (1 : Int32)) y2.symm ?_
  obtain ⟨m10, hm10⟩ : ∃ y : gM, y = (f_h_firstError m9).2 := ⟨_, rfl⟩
  refine x_mu2 hm10 rfl ?_
  rw [← hm10] at y3
  have B10 : bfR 60 (fun _ => 55) m10 := ⟨by rw [y3 0 (by decide)]; exact B9.1, B9.2.1, fun i hi => by rw [y3 2 (by decide)]; exact B9.2.2 i hi⟩
  clear y1 y2 y3 hm10
  refine x_iconst (v := (1 : Int32)) C dL_texts_431 (by decide) ?_
  refine x_icmp_ne (tgt := 448) C dL_texts_432 (by decide) (fun w => absurd (by decide) w) (fun _ => ?_)
  refine x_aload_n C dL_texts_435 rfl 0 rfl ?_
  obtain ⟨y1, y2, y3, y4, y5⟩ := clear_b B10
  refine x_callVi (n := 0) C hq8 gFr_same (c_h_clearBuffer l G q8 m10 h1 y1) (cwV 0 C.2.2.2.2.2.1 gL_texts_X2_clearBuffer rfl rfl rfl (by decide +kernel) ⟨Nat.le_of_ble_eq_true rfl, Nat.le_of_ble_eq_true rfl⟩) rfl rfl rfl rfl (Nat.le_of_ble_eq_true rfl) dL_texts_436 (Nat.le_of_ble_eq_true rfl) (Nat.le_of_ble_eq_true rfl) ?_
  refine x_topi (z := (60 : Int32)) y2.symm ?_
  obtain ⟨m11, hm11⟩ : ∃ y : gM, y = (f_h_clearBuffer m10).2 := ⟨_, rfl⟩
  refine x_mu2 hm11 rfl ?_
  rw [← hm11] at y3 y4 y5
  have B11 : bfR 0 (fun _ => 0) m11 := y3
  clear y1 y2 y3 y4 y5 hm11
  refine x_bipush (v := (60 : Int32)) C dL_texts_439 (by decide) ?_
  refine x_icmp_ne (tgt := 448) C dL_texts_441 (by decide) (fun w => absurd (by decide) w) (fun _ => ?_)
  refine x_iconst (v := (1 : Int32)) C dL_texts_444 (by decide) ?_
  refine x_goto (tgt := 449) C dL_texts_445 (by decide) ?_
  exact g_iret0 C hr (by decide) dL_texts_449 rfl (Nat.le_of_ble_eq_true rfl) (Nat.le_of_ble_eq_true rfl)
