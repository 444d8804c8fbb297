theorem hfs_X2 : ∀ j, j < 7 → defaultValue (tyX2 j) = vp_V (g_flds (fun _ => 0) (fun _ => 0) (fun _ => 0) 0 [.inr none, .inr none, .inr none, .inr (some false), .inr none, .inr (some false), .inr none]) j := fun j hj => by
  rcases (show j = 0 ∨ j = 1 ∨ j = 2 ∨ j = 3 ∨ j = 4 ∨ j = 5 ∨ j = 6 by omega) with rfl | rfl | rfl | rfl | rfl | rfl | rfl <;> rfl
theorem hfs_X3 : ∀ j, j < 12 → defaultValue (tyX3 j) = vp_V (g_flds (fun _ => 0) (fun _ => 0) (fun _ => 0) 0 [.inr none, .inr none, .inr none, .inr (some false), .inr none, .inr (some false), .inr (some false), .inr (some false), .inr (some false), .inr none, .inr (some false), .inr (some true)]) j := fun j hj => by
  rcases (show j = 0 ∨ j = 1 ∨ j = 2 ∨ j = 3 ∨ j = 4 ∨ j = 5 ∨ j = 6 ∨ j = 7 ∨ j = 8 ∨ j = 9 ∨ j = 10 ∨ j = 11 by omega) with rfl | rfl | rfl | rfl | rfl | rfl | rfl | rfl | rfl | rfl | rfl | rfl <;> rfl
def lwB : List Cond := [Cond.classLink RL 8 RX2, Cond.instantiable RX2 7, Cond.initialized RX2, Cond.classLink RL 78 RX3, Cond.instantiable RX3 12, Cond.initialized RX3, Cond.arrayClass .long, Cond.methodLink RL 77 yX2_init, Cond.instanceMethod yX2_init, Cond.methodLink RL 80 yX3_init, Cond.instanceMethod yX3_init]
set_option maxRecDepth 20000 in
theorem lwB_in : ∀ w ∈ lwB, w ∈ wsL_law := mem_r [0, 1, 2, 3, 4, 5, 6, 7, 8, 59, 60] (by decide +kernel)
def esL : List Nat := [0, 1, 2, 3, 4, 5, 6, 7, 8, 9, 10, 11, 12, 13, 14, 15, 16, 17, 18, 19, 20, 21, 22, 23, 24, 25, 26, 27, 28, 29, 30, 31, 32, 33, 34, 35, 36, 37, 38, 39, 40, 41, 42, 43, 44, 45, 46, 47, 48, 49, 50, 51, 52, 53, 54, 55, 56, 57, 58, 59, 60, 61, 62, 63, 64, 65, 66, 67, 68, 69, 70, 71, 72, 73, 74, 75, 76, 77, 78, 79, 80, 81, 82, 83, 84, 85, 86, 87, 88, 89, 90, 91, 92, 93, 94, 95, 96, 97, 98, 99, 100, 101, 102, 103, 104, 105, 106, 107, 108, 109, 110, 111, 112, 113, 114, 115, 116, 117, 118, 119, 120, 121, 122, 123, 124, 125, 126, 127, 128, 129, 130, 131, 138, 132, 133, 134, 135, 136, 137]
theorem g_app_0 {α : Type} (f g : Nat → α) : g_app 0 f g = g := by funext k; exact if_neg (Nat.not_lt_zero k)
theorem wf_shH : g_wf shH = true := by decide +kernel
theorem len_shH : shH.length = 132 := by decide +kernel
set_option maxRecDepth 20000 in
theorem shf0_shH : shH = [] ++ shH.map (g_shf 0) := rfl
def sh138 : List gC := shH ++ shM.map (g_shf 132)
def sh139 : List gC := sh138 ++ [.inr (.inr (.inr 1))]
theorem wf_138 : g_wf sh138 = true := by decide +kernel
theorem len_138 : sh138.length = 138 := by decide +kernel
set_option maxRecDepth 20000 in
theorem sub_139 : gSub sh139 shLaw esL := ⟨by decide +kernel, rfl⟩
theorem esL_lo : ∀ k, k < 132 → esL.getD k 0 = k := by decide +kernel
theorem esL_hi : ∀ k, k < 6 → esL.getD (k + 133) 0 = k + 132 := by decide +kernel
theorem esL_out : esL.getD 132 0 = 138 := by decide +kernel
set_option maxHeartbeats 4000000 in
set_option maxRecDepth 20000 in
theorem law_begin {p : Program} {l : Launch} {e : Env} {R : Room} {s : State} {m9 : MethodId} {args : Array Value} {below : List Frame} {meth : Method} {c : Code} {G : gG} {A : Nat → Prop} {Q : State → Prop} (C : xC p s m9 args meth c G A 9 cL_law RL wsL_law) (hRf : 9 ≤ R.frames) (hRl : 240 ≤ R.locals) {b : Nat} (hE : gE s) {q : Nat → Nat} {μ : gM} {ν : gN} (hq : gD A q ([] : List gC).length) (hRc : 651 ≤ R.cells) (hRs : 9350 ≤ R.slots) (oh : ∀ m h, (m 0 = fun _ => 0) → o_h_init m h) (oo : ∀ m h, (m 0 = fun _ => 0) → o_r_init m h)
    (K : ∀ (q1 : Nat → Nat) (mh : gM) (nh : gN) (mr : gM) (nr : gN) (m1 : gM) (h1 : gN) (m2 : gM) (h2 : gN), (m1 0 = fun _ => 0) → (m2 0 = fun _ => 0) → (∀ k, k < 132 → mh k = (f_h_init m1 h1).1 k) → (∀ k, k < 6 → mr k = (f_r_init m2 h2).1 k) → gD A q1 shLaw.length → xJ p l e R s m9 args below meth c G A 9 Q 139 6278 shLaw q1 (g_app 133 mh mr) (g_app 133 nh nr) [(0, .ref b), (1, .ref (q1 0)), (2, .ref (q1 133)), (3, .ref (q1 132)), (4, .int 0)] [] 23) :
    xJ p l e R s m9 args below meth c G A 9 Q 0 0 [] q μ ν [(0, .ref b)] [] 0 := by
  refine x_newo (cells := 0) (slots := 0) (sh := []) (sh' := shnH) (L := 0) (ci := 2) (CN := RX2) (T := TX2) (N := 7) (fds := [.inr none, .inr none, .inr none, .inr (some false), .inr none, .inr (some false), .inr none]) C hq rfl tyX2 tyX2_ok inlX2 (lwB_in _ (by simp [lwB])) (lwB_in _ (by simp [lwB])) (lwB_in _ (by simp [lwB])) rfl hfs_X2 rfl (by omega) (by omega) dL_law_0 rfl rfl (fun q1 e1 hq1 => ?_)
  refine x_dup C dL_law_3 rfl ?_
  obtain ⟨m1, hm1⟩ : ∃ y : gM, y = fun _ => (g_set μ 0 (fun _ => 0)) 0 := ⟨_, rfl⟩
  obtain ⟨h1, hh1⟩ : ∃ y : gN, y = fun _ => (g_setN ν 0 (fun _ => 0)) 0 := ⟨_, rfl⟩
  have z1 : m1 0 = fun _ => 0 := by rw [hm1]; exact g_set_s
  have c1 : gMe l yX2_init wsX2_init rm_h_init G shnH (fun _ => q1 0) (fun _ => (g_set μ 0 (fun _ => 0)) 0) (fun _ => (g_setN ν 0 (fun _ => 0)) 0) [.ref (q1 0)] shH (f_h_init m1 h1).1 (f_h_init m1 h1).2 131 3190 := by
    rw [← hm1, ← hh1]; exact c_h_init l G (fun _ => q1 0) m1 h1 (oh m1 h1 z1)
  refine x_callIe (st' := [.ref (q1 0)]) (sh0 := []) (sh := shnH) (sh' := shH) (d0 := .inr (.inl (2, [.inr none, .inr none, .inr none, .inr (some false), .inr none, .inr (some false), .inr none]))) (L := 0) C hq1 rfl rfl rfl rfl hE c1 (cwI 0 C.2.2.2.2.2.1 gL_law_X2_init rfl rfl rfl (C.2.2.2.2.2.1 (Cond.initialized RX2) (lwB_in _ (by simp [lwB]))) (C.2.2.2.2.2.1 (Cond.methodLink RL 77 yX2_init) (lwB_in _ (by simp [lwB]))) (C.2.2.2.2.2.1 (Cond.instanceMethod yX2_init) (lwB_in _ (by simp [lwB]))) rfl (by decide +kernel) ⟨Nat.le_trans (by decide) hRf, Nat.le_trans (Nat.le_of_ble_eq_true rfl) hRl⟩) rfl (Nat.le_of_ble_eq_true rfl) dL_law_4 (by omega) (by omega) shf0_shH (fun q2 e2 hq2 => ?_)
  refine x_mu2 (μ2 := (f_h_init m1 h1).1) (ν2 := (f_h_init m1 h1).2) (g_app_0 _ _).symm (g_app_0 _ _).symm ?_
  refine x_stk (st' := [.ref (q2 0)]) (by rw [e2 0 (by decide)]) ?_
  refine x_astore_n (lv' := [(0, .ref b), (1, .ref (q2 0))]) C dL_law_7 rfl (by decide) [1, 0] rfl ?_
  refine x_newo (sh := shH) (sh' := shH ++ shnM) (L := 132) (ci := 3) (CN := RX3) (T := TX3) (N := 12) (fds := [.inr none, .inr none, .inr none, .inr (some false), .inr none, .inr (some false), .inr (some false), .inr (some false), .inr (some false), .inr none, .inr (some false), .inr (some true)]) C hq2 wf_shH tyX3 tyX3_ok inlX3 (lwB_in _ (by simp [lwB])) (lwB_in _ (by simp [lwB])) (lwB_in _ (by simp [lwB])) rfl hfs_X3 rfl (by omega) (by omega) dL_law_8 len_shH rfl (fun q3 e3 hq3 => ?_)
  refine x_lve (lv' := [(0, .ref b), (1, .ref (q3 0))]) (by rw [e3 0 (by decide)]) ?_
  refine x_dup C dL_law_11 rfl ?_
  obtain ⟨m2, hm2⟩ : ∃ y : gM, y = fun _ => (g_set (f_h_init m1 h1).1 132 (fun _ => 0)) 132 := ⟨_, rfl⟩
  obtain ⟨h2, hh2⟩ : ∃ y : gN, y = fun _ => (g_setN (f_h_init m1 h1).2 132 (fun _ => 0)) 132 := ⟨_, rfl⟩
  have z2 : m2 0 = fun _ => 0 := by rw [hm2]; exact g_set_s
  have c2 : gMc l yX3_init wsX3_init rm_r_init G shnM (fun _ => q3 132) (fun _ => (g_set (f_h_init m1 h1).1 132 (fun _ => 0)) 132) (fun _ => (g_setN (f_h_init m1 h1).2 132 (fun _ => 0)) 132) [.ref (q3 132)] shM (f_r_init m2 h2).1 (f_r_init m2 h2).2 5 3068 := by
    rw [← hm2, ← hh2]; exact c_r_init l G (fun _ => q3 132) m2 h2 (oo m2 h2 z2)
  refine x_callIc (st' := [.ref (q3 132)]) (sh0 := shH) (sh := shH ++ shnM) (sh' := sh138) (d0 := .inr (.inl (3, [.inr none, .inr none, .inr none, .inr (some false), .inr none, .inr (some false), .inr (some false), .inr (some false), .inr (some false), .inr none, .inr (some false), .inr (some true)]))) (L := 132) C hq3 wf_shH rfl len_shH rfl c2 (cwI 0 C.2.2.2.2.2.1 gL_law_X3_init rfl rfl rfl (C.2.2.2.2.2.1 (Cond.initialized RX3) (lwB_in _ (by simp [lwB]))) (C.2.2.2.2.2.1 (Cond.methodLink RL 80 yX3_init) (lwB_in _ (by simp [lwB]))) (C.2.2.2.2.2.1 (Cond.instanceMethod yX3_init) (lwB_in _ (by simp [lwB]))) rfl (by decide +kernel) ⟨Nat.le_trans (by decide) hRf, Nat.le_trans (Nat.le_of_ble_eq_true rfl) hRl⟩) rfl (Nat.le_of_ble_eq_true rfl) dL_law_12 (by omega) (by omega) rfl (fun q4 e4 hq4 => ?_)
  refine x_lve (lv' := [(0, .ref b), (1, .ref (q4 0))]) (by rw [e4 0 (by decide)]) ?_
  refine x_stk (st' := [.ref (q4 132)]) (by rw [e4 132 (by decide)]) ?_
  refine x_astore_n (lv' := [(0, .ref b), (1, .ref (q4 0)), (2, .ref (q4 132))]) C dL_law_15 rfl (by decide) [1, 2, 0] rfl ?_
  refine x_iconst (v := (1 : Int32)) C dL_law_16 (by decide) ?_
  refine x_newl (sh := sh138) (sh' := sh139) (L := 138) (N' := 1) C hq4 wf_138 (lwB_in _ (by simp [lwB])) (by decide) (by decide) (by decide) (by omega) (by omega) dL_law_17 len_138 rfl (fun q5 e5 hq5 => ?_)
  refine x_lve (lv' := [(0, .ref b), (1, .ref (q5 0)), (2, .ref (q5 132))]) (by rw [e5 0 (by decide), e5 132 (by decide)]) ?_
  refine x_astore_n (lv' := [(0, .ref b), (1, .ref (q5 0)), (2, .ref (q5 132)), (3, .ref (q5 138))]) C dL_law_19 rfl (by decide) [1, 2, 3, 0] rfl ?_
  refine x_iconst (v := (0 : Int32)) C dL_law_20 (by decide) ?_
  refine x_istore (lv' := [(0, .ref b), (1, .ref (q5 0)), (2, .ref (q5 132)), (3, .ref (q5 138)), (4, .int 0)]) C dL_law_21 (by decide) [1, 2, 3, 4, 0] rfl ?_
  refine x_renN esL sub_139 ?_
  have t0 : g_sel esL q5 0 = q5 0 := congrArg q5 (esL_lo 0 (by decide))
  have t1 : g_sel esL q5 133 = q5 132 := congrArg q5 (esL_hi 0 (by decide))
  have t2 : g_sel esL q5 132 = q5 138 := congrArg q5 esL_out
  refine x_lve (lv' := [(0, .ref b), (1, .ref ((g_sel esL q5) 0)), (2, .ref ((g_sel esL q5) 133)), (3, .ref ((g_sel esL q5) 132)), (4, .int 0)]) (by rw [t0, t1, t2]) ?_
  refine x_mu2 (g_app_self 133 _) (g_app_self 133 _) ?_
  refine K (g_sel esL q5) _ _ _ _ m1 h1 m2 h2 z1 z2 (fun k hk => ?_) (fun k hk => ?_) ?_
  · show (g_app 132 (g_set (f_h_init m1 h1).1 132 (fun _ => 0)) (f_r_init m2 h2).1) (esL.getD k 0) = _
    rw [esL_lo k hk, g_app_lo _ _ hk, g_set_n (by omega)]
  · show (g_app 132 (g_set (f_h_init m1 h1).1 132 (fun _ => 0)) (f_r_init m2 h2).1) (esL.getD (k + 133) 0) = _
    rw [esL_hi k hk, g_app_hi]
  · have hlen : sh139.length = shLaw.length := by decide +kernel
    rw [← hlen]
    exact gD_sel hq5 (by decide +kernel) (by decide +kernel) (by decide +kernel)
