/-! the law: its loop, what follows it, its beginning -/
set_option maxRecDepth 100000 in
set_option maxHeartbeats 4000000 in
theorem law_loop {p : Program} {l : Launch} {e : Env} {s : State} {m9 : MethodId} {args : Array Value} {below : List Frame} {meth : Method} {c9 : Code} {G : gG} {A : Nat → Prop} {Q : State → Prop} (C : xC p s m9 args meth c9 G A 11 cL_law RL wsL_law) {b L : Nat} {xs : Nat → Int32} (hXs : va_X b L xs s s.heap) (hbl : b < s.heap.size) (hbA : ¬ A b) (hL : L ≤ 260) (hX : gX A s) (hl9 : l.stackTraces = false) (fin : ∀ (q1 : Nat → Nat) (m1 : gM) (ν1 : gN) (c1 : Nat) (r1 : Nat → Int32) (acts1 cells1 slots1 : Nat) (rs1 : List (Nat → Int32)), LI c1 acts1 m1 (ν1 132) r1 rs1 → acts1 ≤ 24 → c1 ≤ 93120 → cells1 ≤ 4024 → slots1 ≤ 90144 → gD A q1 shL.length → xJ p l e room_1 s m9 args below meth c9 G A 11 Q cells1 slots1 shL q1 m1 ν1 [(0, .ref b), (1, .ref (q1 0)), (2, .ref (q1 132)), (3, .int (Int32.ofNat acts1)), (4, .int (Int32.ofNat 24))] [] 293) : ∀ (n k : Nat), k + n = 24 → ∀ {acts c cells slots : Nat} {q : Nat → Nat} {μ : gM} {ν : gN} {r : Nat → Int32} {rs : List (Nat → Int32)}, LI c acts μ (ν 132) r rs → acts ≤ k → c ≤ 3880 * k → cells ≤ 4000 + k → slots ≤ 90000 + 6 * k → gD A q shL.length → xJ p l e room_1 s m9 args below meth c9 G A 11 Q cells slots shL q μ ν [(0, .ref b), (1, .ref (q 0)), (2, .ref (q 132)), (3, .int (Int32.ofNat acts)), (4, .int (Int32.ofNat k))] [] 32 := by
  intro n
  induction n with
  | zero =>
    intro k hk acts c cells slots q μ ν r rs hI ha hc hcs hss hq
    have hk : k = 24 := by omega
    subst hk
    refine x_iload C dL_law_32 4 rfl ?_
    refine x_bipush (v := (24 : Int32)) C dL_law_34 (by decide) ?_
    refine x_icmp_ge (tgt := 293) C dL_law_36 (by decide) (fun _ => ?_) (fun w => absurd (by decide) w)
    exact fin q μ ν c r acts cells slots rs hI ha (by omega) (by omega) (by omega) hq
  | succ n ih =>
    intro k hk acts c cells slots q μ ν r rs hI ha hc hcs hss hq
    have nge : ¬ ((24 : Int32) ≤ Int32.ofNat k) := fun w => by have := (leI (a := 24) (by omega) (by omega)).mp w; omega
    refine x_iload C dL_law_32 4 rfl ?_
    refine x_bipush (v := (24 : Int32)) C dL_law_34 (by decide) ?_
    refine x_icmp_ge (tgt := 293) C dL_law_36 (by decide) (fun w => absurd w nge) (fun _ => ?_)
    exact law_turn C hXs hbl hbA hL hq hX hl9 (by omega) ha (by omega) (by omega) hI (by omega) (fun q1 m1 ν1 c1 r1 acts1 cells1 slots1 rs1 i1 i2 i3 i4 i5 i6 => ih (k + 1) (by omega) i1 (by omega) (by omega) (by omega) (by omega) i6)
theorem subNk {a k : Nat} (h : k ≤ a) : Int32.ofNat a - Int32.ofNat k = Int32.ofNat (a - k) := by
  rw [show Int32.ofNat a = Int32.ofNat ((a - k) + k) by rw [show (a - k) + k = a by omega], subNN]
set_option maxRecDepth 100000 in
set_option maxHeartbeats 4000000 in
theorem law_back {p : Program} {l : Launch} {e : Env} {s : State} {m9 : MethodId} {args : Array Value} {below : List Frame} {meth : Method} {c9 : Code} {G : gG} {A : Nat → Prop} {Q : State → Prop} (C : xC p s m9 args meth c9 G A 11 cL_law RL wsL_law) {b acts c cells slots : Nat} {ν : gN} (hc : cells ≤ room_1.cells) (hs : slots ≤ room_1.slots) (hcc : c < 100000000) (ha : acts ≤ 24) (K : ∀ (q1 : Nat → Nat) (m1 : gM) (r1 : Nat → Int32), Rq c m1 r1 [] → gD A q1 shL.length → xJ p l e room_1 s m9 args below meth c9 G A 11 Q cells slots shL q1 m1 ν [(0, .ref b), (1, .ref (q1 0)), (2, .ref (q1 132))] [] 422) : ∀ (n k : Nat), n + k ≤ 4 → ∀ {q : Nat → Nat} {μ : gM} {r : Nat → Int32} {X : List (Nat → Int32)}, X.length = n → LI c (acts - k) μ (ν 132) r X → ν 132 (acts - k) = sn5 r → k ≤ acts → gD A q shL.length → xJ p l e room_1 s m9 args below meth c9 G A 11 Q cells slots shL q μ ν [(0, .ref b), (1, .ref (q 0)), (2, .ref (q 132)), (3, .int (Int32.ofNat acts)), (7, .int (Int32.ofNat k))] [] 377 := by
  intro n
  induction n with
  | zero =>
    intro k hk q μ r X hX hI hw hka hq
    have hX := List.length_eq_zero_iff.mp hX
    subst hX
    have hR := hI.1
    refine x_aload_n C dL_law_377 rfl 1 rfl ?_
    refine x_bipush (v := (11 : Int32)) C dL_law_378 (by decide) ?_
    refine x_callVi (n := 1) C hq (gFr_lng (rest := [.inr (.inr (.inr 64))]) rfl wf_shH rfl) (c_h_count l G q μ ν (11 : Int32) (count11Q hR).1) (cwV 1 C.2.2.2.2.2.1 gL_law_X2_count rfl rfl rfl (by decide +kernel) ⟨Nat.le_of_ble_eq_true rfl, Nat.le_of_ble_eq_true rfl⟩) rfl rfl rfl rfl (Nat.le_of_ble_eq_true rfl) dL_law_380 hc hs ?_
    refine x_topi (z := Int32.ofNat ([] : List (Nat → Int32)).length) (count11Q hR).2.symm ?_
    refine x_if_le (tgt := 422) C dL_law_383 (by decide) (fun _ => ?_) (fun w => absurd (by decide) w)
    refine x_lv (lv' := [(0, .ref b), (1, .ref (q 0)), (2, .ref (q 132))]) [0, 1, 2] rfl ?_
    exact K q μ r hR hq
  | succ n ih =>
    intro k hk q μ r X hX hI hw hka hq
    obtain ⟨Y, f, rfl⟩ := has_last X (by omega)
    have hl : (Y ++ [f]).length = Y.length + 1 := by rw [List.length_append]; rfl
    have hR := hI.1
    have nle : ¬ (Int32.ofNat (Y ++ [f]).length ≤ (0 : Int32)) := fun w => by have := (leI (b := 0) (by omega) (by omega)).mp w; omega
    have ngt : ¬ ((6 : Int32) < Int32.ofNat k) := fun w => by have := (ltI (a := 6) (by omega) (by omega)).mp w; omega
    have hge : (0 : Int32) ≤ Int32.ofNat Y.length := (leI (a := 0) (by omega) (by omega)).mpr (by omega)
    obtain ⟨u1, u2, u3, u4, u5⟩ := LI_pop hI
    refine x_aload_n C dL_law_377 rfl 1 rfl ?_
    refine x_bipush (v := (11 : Int32)) C dL_law_378 (by decide) ?_
    refine x_callVi (n := 1) C hq (gFr_lng (rest := [.inr (.inr (.inr 64))]) rfl wf_shH rfl) (c_h_count l G q μ ν (11 : Int32) (count11Q hR).1) (cwV 1 C.2.2.2.2.2.1 gL_law_X2_count rfl rfl rfl (by decide +kernel) ⟨Nat.le_of_ble_eq_true rfl, Nat.le_of_ble_eq_true rfl⟩) rfl rfl rfl rfl (Nat.le_of_ble_eq_true rfl) dL_law_380 hc hs ?_
    refine x_topi (z := Int32.ofNat (Y ++ [f]).length) (count11Q hR).2.symm ?_
    refine x_if_le (tgt := 422) C dL_law_383 (by decide) (fun w => absurd w nle) (fun _ => ?_)
    refine x_iload C dL_law_386 4 rfl ?_
    refine x_bipush (v := (6 : Int32)) C dL_law_388 (by decide) ?_
    refine x_icmp_gt (tgt := 414) C dL_law_390 (by decide) (fun w => absurd w ngt) (fun _ => ?_)
    refine x_aload_n C dL_law_393 rfl 1 rfl ?_
    refine x_callSl (n := 1) C hq (gFr_lng (rest := [.inr (.inr (.inr 64))]) rfl wf_shH rfl) (c_l_seen l G q μ ν (seenQ hR hcc).1) (va_cwS 1 C.2.2.2.2.2.1 gL_law_L_seen rfl rfl rfl (by decide +kernel) ⟨Nat.le_of_ble_eq_true rfl, Nat.le_of_ble_eq_true rfl⟩) rfl rfl (Nat.le_of_ble_eq_true rfl) dL_law_394 hc hs ?_
    refine x_topl (z := sn5 r) (seenQ hR hcc).2.symm ?_
    refine x_aload_n C dL_law_397 rfl 2 rfl ?_
    refine x_iload_n C dL_law_398 rfl 3 rfl ?_
    refine x_iload C dL_law_399 4 rfl ?_
    refine x_isub C dL_law_401 ?_
    refine x_topi (z := Int32.ofNat (acts - k)) (subNk hka).symm ?_
    refine x_lald (v := sn5 r) C 132 shL_132 (vp_in_nI (show acts - k < 64 by omega) (by omega)) (by rw [nI_ix (by omega)]; exact hw) dL_law_402 ?_
    refine x_lcmp C dL_law_403 ?_
    refine x_topi (z := (0 : Int32)) (lg_same _).symm ?_
    refine x_if_ne (tgt := 414) C dL_law_404 (by decide) (fun w => absurd (by decide) w) (fun _ => ?_)
    refine x_aload_n C dL_law_407 rfl 1 rfl ?_
    refine x_callZp (n := 0) (shc := shH) (rest := [.inr (.inr (.inr 64))]) (n4 := 4) C rfl hq wf_shH rfl h4H (c_h_undo l G q μ ν u1) (cwV 0 C.2.2.2.2.2.1 gL_law_X2_undo rfl rfl rfl (by decide +kernel) ⟨Nat.le_of_ble_eq_true rfl, Nat.le_of_ble_eq_true rfl⟩) rfl rfl rfl rfl (Nat.le_of_ble_eq_true rfl) dL_law_408 hc hs (fun q1 e1 hq1 => ?_)
    refine x_topi (z := Int32.ofNat Y.length) u2.symm ?_
    obtain ⟨m1, hm1⟩ : ∃ y : gM, y = (f_h_undo μ).2 := ⟨_, rfl⟩
    rw [← hm1] at u5
    refine x_mu2 hm1 rfl ?_
    refine x_lve (lv' := [(0, .ref b), (1, .ref (q1 0)), (2, .ref (q1 132)), (3, .int (Int32.ofNat acts)), (7, .int (Int32.ofNat k))]) (by rw [e1 0 (Or.inl (by decide)), e1 132 (Or.inr (Nat.le_of_eq len_shH))]) ?_
    refine x_if_ge (tgt := 416) C dL_law_411 (by decide) (fun _ => ?_) (fun w => absurd hge w)
    refine x_iinc (v := Int32.ofNat (k + 1)) (lv' := [(0, .ref b), (1, .ref (q1 0)), (2, .ref (q1 132)), (3, .int (Int32.ofNat acts)), (7, .int (Int32.ofNat (k + 1)))]) C dL_law_416 4 rfl (by rw [show Int32.ofInt 1 = (1 : Int32) from by decide]; exact e1r k) (by decide) [1, 2, 3, 4, 0] rfl ?_
    refine x_goto (tgt := 377) C dL_law_419 (by decide) ?_
    rw [show acts - k - 1 = acts - (k + 1) by omega] at u4 u5
    exact ih (k + 1) (by omega) (by omega) u5 u4 (by omega) hq1
set_option maxRecDepth 100000 in
set_option maxHeartbeats 4000000 in
theorem law_mid {p : Program} {l : Launch} {e : Env} {s : State} {m9 : MethodId} {args : Array Value} {below : List Frame} {meth : Method} {c9 : Code} {G : gG} {A : Nat → Prop} {Q : State → Prop} (C : xC p s m9 args meth c9 G A 11 cL_law RL wsL_law) {b acts c cells slots : Nat} {q : Nat → Nat} {μ : gM} {ν : gN} {r : Nat → Int32} {rs : List (Nat → Int32)} (hX : gX A s) (hl9 : l.stackTraces = false) (hc : cells ≤ room_1.cells) (hs : slots ≤ room_1.slots) (hc6 : cells + 60 ≤ room_1.cells) (hs6 : slots + 360 ≤ room_1.slots) (hI : LI c acts μ (ν 132) r rs) (ha : acts ≤ 24) (hc5 : c ≤ 93120) (hq : gD A q shL.length) (K : ∀ (q1 : Nat → Nat) (m1 : gM) (ν1 : gN) (c1 : Nat) (r1 : Nat → Int32) (X : List (Nat → Int32)), LI c1 acts m1 (ν1 132) r1 X → ν1 132 acts = sn5 r1 → X.length ≤ 4 → c1 < 1000000 → gD A q1 shL.length → xJ p l e room_1 s m9 args below meth c9 G A 11 Q (cells + 60) (slots + 360) shL q1 m1 ν1 [(0, .ref b), (1, .ref (q1 0)), (2, .ref (q1 132)), (3, .int (Int32.ofNat acts))] [] 374) : xJ p l e room_1 s m9 args below meth c9 G A 11 Q cells slots shL q μ ν [(0, .ref b), (1, .ref (q 0)), (2, .ref (q 132)), (3, .int (Int32.ofNat acts)), (4, .int (Int32.ofNat 24))] [] 293 := by
  have hR := hI.1
  have hcc : c < 100000000 := by omega
  have h6 := hR.2.2.1
  have hd : (rs.drop (rs.length - 4)).length = rs.length - (rs.length - 4) := List.length_drop
  have hl4 : (rs.drop (rs.length - 4)).length ≤ 4 := by omega
  have hd1 : (rs.drop (rs.length - 4) ++ [r]).length = (rs.drop (rs.length - 4)).length + 1 := by rw [List.length_append]; rfl
  have n1 : ¬ (Int32.ofNat (rs.drop (rs.length - 4) ++ [r]).length < (1 : Int32)) := fun w => by have := (ltI (b := 1) (by omega) (by omega)).mp w; omega
  have n2 : ¬ (Int32.ofNat (rs.drop (rs.length - 4)).length < (0 : Int32)) := nI_ge0 (by omega)
  refine x_aload_n C dL_law_293 rfl 2 rfl ?_
  refine x_iload_n C dL_law_294 rfl 3 rfl ?_
  refine x_aload_n C dL_law_295 rfl 1 rfl ?_
  refine x_callSl (n := 1) C hq (gFr_lng (rest := [.inr (.inr (.inr 64))]) rfl wf_shH rfl) (c_l_seen l G q μ ν (seenQ hR hcc).1) (va_cwS 1 C.2.2.2.2.2.1 gL_law_L_seen rfl rfl rfl (by decide +kernel) ⟨Nat.le_of_ble_eq_true rfl, Nat.le_of_ble_eq_true rfl⟩) rfl rfl (Nat.le_of_ble_eq_true rfl) dL_law_296 hc hs ?_
  refine x_topl (z := sn5 r) (seenQ hR hcc).2.symm ?_
  obtain ⟨ν1, hν1⟩ : ∃ y : gN, y = g_setN ν 132 (vp_updL (ν 132) (Int32.ofNat acts).toNatClampNeg (sn5 r)) := ⟨_, rfl⟩
  refine x_last C hq 132 shL_132 (vp_in_nI (show acts < 64 by omega) (by omega)) hν1 dL_law_299 ?_
  have w1 : ν1 132 acts = sn5 r := by rw [hν1, g_setN_s, nI_ix (by omega)]; exact if_pos rfl
  have w2 : ∀ j, j < acts → ν1 132 j = ν 132 j := fun j hj => by rw [hν1, g_setN_s, nI_ix (by omega)]; exact if_neg (by omega)
  have hI1 : LI c acts μ (ν1 132) r rs := LI_W hI w2
  clear hν1 w2
  refine x_aload_n C dL_law_300 rfl 1 rfl ?_
  obtain ⟨d1, d2, d3⟩ := digQ hR hI.2.1 (by omega)
  refine x_callVl (n := 0) C hq (gFr_lng (rest := [.inr (.inr (.inr 64))]) rfl wf_shH rfl) (c_h_digest l G q μ ν1 d1) (cwV 0 C.2.2.2.2.2.1 gL_law_X2_digest rfl rfl rfl (by decide +kernel) ⟨Nat.le_of_ble_eq_true rfl, Nat.le_of_ble_eq_true rfl⟩) rfl rfl rfl rfl (Nat.le_of_ble_eq_true rfl) dL_law_301 hc hs ?_
  refine x_topl (z := dgv r rs) d2.symm ?_
  obtain ⟨m1, hm1⟩ : ∃ y : gM, y = (f_h_digest μ).2 := ⟨_, rfl⟩
  have R1 := Rq_trial hR d3
  rw [← hm1] at R1
  have z1 : m1 0 5 = 0 := by rw [hm1, d3 0 (by omega)]; exact hI.2.1
  refine x_mu2 hm1 rfl ?_
  clear d1 d2 d3 hm1
  refine x_lstore (lv' := [(0, .ref b), (1, .ref (q 0)), (2, .ref (q 132)), (3, .int (Int32.ofNat acts)), (4, .long (dgv r rs))]) C dL_law_304 (by decide) [1, 2, 3, 4, 0] rfl ?_
  refine x_aload_n C dL_law_306 rfl 1 rfl ?_
  refine x_bipush (v := (11 : Int32)) C dL_law_307 (by decide) ?_
  refine x_callVi (n := 1) C hq (gFr_lng (rest := [.inr (.inr (.inr 64))]) rfl wf_shH rfl) (c_h_count l G q m1 ν1 (11 : Int32) (count11Q R1).1) (cwV 1 C.2.2.2.2.2.1 gL_law_X2_count rfl rfl rfl (by decide +kernel) ⟨Nat.le_of_ble_eq_true rfl, Nat.le_of_ble_eq_true rfl⟩) rfl rfl rfl rfl (Nat.le_of_ble_eq_true rfl) dL_law_309 hc hs ?_
  refine x_topi (z := Int32.ofNat rs.length) (count11Q R1).2.symm ?_
  refine x_istore (lv' := [(0, .ref b), (1, .ref (q 0)), (2, .ref (q 132)), (3, .int (Int32.ofNat acts)), (4, .long (dgv r rs)), (6, .int (Int32.ofNat rs.length))]) C dL_law_312 (by decide) [1, 2, 3, 4, 5, 0] rfl ?_
  refine x_aload_n C dL_law_314 rfl 1 rfl ?_
  refine x_iconst (v := (0 : Int32)) C dL_law_315 (by decide) ?_
  refine x_iconst (v := (0 : Int32)) C dL_law_316 (by decide) ?_
  obtain ⟨y1, ⟨v, hv, y2⟩, y3, y4⟩ := actW (p := 0) (h := 0) R1 (by omega) (by omega) (by omega)
  refine x_callZp (n := 2) (shc := shH) (rest := [.inr (.inr (.inr 64))]) (n4 := 4) C rfl hq wf_shH rfl h4H (c_h_write l G q m1 ν1 (Int32.ofNat 0) (Int32.ofNat 0) y1) (cwV 2 C.2.2.2.2.2.1 gL_law_X2_write rfl rfl rfl (by decide +kernel) ⟨Nat.le_of_ble_eq_true rfl, Nat.le_of_ble_eq_true rfl⟩) rfl rfl rfl rfl (Nat.le_of_ble_eq_true rfl) dL_law_317 hc hs (fun q2 e2 hq2 => ?_)
  refine x_topi (z := Int32.ofNat v) y2.symm ?_
  obtain ⟨m2, hm2⟩ : ∃ y : gM, y = (f_h_write m1 (Int32.ofNat 0) (Int32.ofNat 0)).2 := ⟨_, rfl⟩
  have z2 : (f_h_write m1 (Int32.ofNat 0) (Int32.ofNat 0)).2 0 5 = 0 := (y4 5 (by decide)).trans z1
  rw [← hm2] at y3 z2
  refine x_mu2 hm2 rfl ?_
  have hlt : ¬ (Int32.ofNat v < (0 : Int32)) := nI_ge0 (by omega)
  obtain ⟨r2, hr2⟩ : ∃ y : Nat → Int32, y = wrow 0 r 0 1 := ⟨_, rfl⟩
  rw [← hr2] at y3
  have R2 := y3
  refine x_lve (lv' := [(0, .ref b), (1, .ref (q2 0)), (2, .ref (q2 132)), (3, .int (Int32.ofNat acts)), (4, .long (dgv r rs)), (6, .int (Int32.ofNat rs.length))]) (by rw [e2 0 (Or.inl (by decide)), e2 132 (Or.inr (Nat.le_of_eq len_shH))]) ?_
  refine x_if_lt (tgt := 372) C dL_law_320 (by decide) (fun w => absurd w hlt) (fun _ => ?_)
  clear y1 y2 y3 y4 hv hlt hm2 hr2
  refine x_aload_n C dL_law_323 rfl 1 rfl ?_
  refine x_iconst (v := (0 : Int32)) C dL_law_324 (by decide) ?_
  refine x_bipush (v := (40 : Int32)) C dL_law_325 (by decide) ?_
  refine x_iconst (v := (3 : Int32)) C dL_law_327 (by decide) ?_
  obtain ⟨y1, ⟨v, hv, y2⟩, y3, y4⟩ := actR (p := 0) (k := 40) (h := 3) R2 (by omega) (by omega) (by omega) (by omega)
  refine x_callZp (n := 3) (shc := shH) (rest := [.inr (.inr (.inr 64))]) (n4 := 4) C rfl hq2 wf_shH rfl h4H (c_h_writeRow l G q2 m2 ν1 (Int32.ofNat 0) (Int32.ofNat 40) (Int32.ofNat 3) y1) (cwV 3 C.2.2.2.2.2.1 gL_law_X2_writeRow rfl rfl rfl (by decide +kernel) ⟨Nat.le_of_ble_eq_true rfl, Nat.le_of_ble_eq_true rfl⟩) rfl rfl rfl rfl (Nat.le_of_ble_eq_true rfl) dL_law_328 hc hs (fun q3 e3 hq3 => ?_)
  refine x_topi (z := Int32.ofNat v) y2.symm ?_
  obtain ⟨m3, hm3⟩ : ∃ y : gM, y = (f_h_writeRow m2 (Int32.ofNat 0) (Int32.ofNat 40) (Int32.ofNat 3)).2 := ⟨_, rfl⟩
  have z3 : (f_h_writeRow m2 (Int32.ofNat 0) (Int32.ofNat 40) (Int32.ofNat 3)).2 0 5 = 0 := (y4 5 (by decide)).trans z2
  rw [← hm3] at y3 z3
  refine x_mu2 hm3 rfl ?_
  have hlt : ¬ (Int32.ofNat v < (0 : Int32)) := nI_ge0 (by omega)
  obtain ⟨r3, hr3⟩ : ∃ y : Nat → Int32, y = wrow 3 r2 0 40 := ⟨_, rfl⟩
  rw [← hr3] at y3
  have R3 := y3
  refine x_lve (lv' := [(0, .ref b), (1, .ref (q3 0)), (2, .ref (q3 132)), (3, .int (Int32.ofNat acts)), (4, .long (dgv r rs)), (6, .int (Int32.ofNat rs.length))]) (by rw [e3 0 (Or.inl (by decide)), e3 132 (Or.inr (Nat.le_of_eq len_shH))]) ?_
  refine x_if_lt (tgt := 372) C dL_law_331 (by decide) (fun w => absurd w hlt) (fun _ => ?_)
  clear y1 y2 y3 y4 hv hlt hm3 hr3
  refine x_aload_n C dL_law_334 rfl 1 rfl ?_
  refine x_callZ0 (n := 1) (shc := shH) (rest := [.inr (.inr (.inr 64))]) (cells' := cells + 60) (slots' := slots + 360) C rfl hq3 wf_shH rfl hX (c_l_refused l hl9 G q3 m3 ν1 (seenQ R3 (by omega)).1 (count11Q R3).1) (va_cwS 1 C.2.2.2.2.2.1 gL_law_L_refused rfl rfl rfl (by decide +kernel) ⟨Nat.le_of_ble_eq_true rfl, Nat.le_of_ble_eq_true rfl⟩) rfl rfl (Nat.le_of_ble_eq_true rfl) dL_law_335 rfl rfl hc6 hs6 ?_
  refine x_if_eq (tgt := 372) C dL_law_338 (by decide) (fun w => absurd w (by decide)) (fun _ => ?_)
  rw [pus_pus hR.2.2.1] at R3
  refine x_aload_n C dL_law_341 rfl 1 rfl ?_
  obtain ⟨y1, y2, y3, -, y5⟩ := undoQ (rs := rs.drop (rs.length - 4) ++ [r]) (f := r2) R3
  refine x_callZp (n := 0) (shc := shH) (rest := [.inr (.inr (.inr 64))]) (n4 := 4) C rfl hq3 wf_shH rfl h4H (c_h_undo l G q3 m3 ν1 y1) (cwV 0 C.2.2.2.2.2.1 gL_law_X2_undo rfl rfl rfl (by decide +kernel) ⟨Nat.le_of_ble_eq_true rfl, Nat.le_of_ble_eq_true rfl⟩) rfl rfl rfl rfl (Nat.le_of_ble_eq_true rfl) dL_law_342 hc6 hs6 (fun q4 e4 hq4 => ?_)
  refine x_topi (z := Int32.ofNat (rs.drop (rs.length - 4) ++ [r]).length) y2.symm ?_
  obtain ⟨m4, hm4⟩ : ∃ y : gM, y = (f_h_undo m3).2 := ⟨_, rfl⟩
  have z4 : (f_h_undo m3).2 0 5 = 0 := (y5 5 (by decide)).trans z3
  rw [← hm4] at y3 z4
  refine x_mu2 hm4 rfl ?_
  have R4 := y3
  clear y1 y2 y3 y5 hm4
  refine x_lve (lv' := [(0, .ref b), (1, .ref (q4 0)), (2, .ref (q4 132)), (3, .int (Int32.ofNat acts)), (4, .long (dgv r rs)), (6, .int (Int32.ofNat rs.length))]) (by rw [e4 0 (Or.inl (by decide)), e4 132 (Or.inr (Nat.le_of_eq len_shH))]) ?_
  refine x_iconst (v := (1 : Int32)) C dL_law_345 (by decide) ?_
  refine x_icmp_lt (tgt := 372) C dL_law_346 (by decide) (fun w => absurd w n1) (fun _ => ?_)
  refine x_aload_n C dL_law_349 rfl 1 rfl ?_
  obtain ⟨y1, y2, y3, -, y5⟩ := undoQ (rs := rs.drop (rs.length - 4)) (f := r) R4
  refine x_callZp (n := 0) (shc := shH) (rest := [.inr (.inr (.inr 64))]) (n4 := 4) C rfl hq4 wf_shH rfl h4H (c_h_undo l G q4 m4 ν1 y1) (cwV 0 C.2.2.2.2.2.1 gL_law_X2_undo rfl rfl rfl (by decide +kernel) ⟨Nat.le_of_ble_eq_true rfl, Nat.le_of_ble_eq_true rfl⟩) rfl rfl rfl rfl (Nat.le_of_ble_eq_true rfl) dL_law_350 hc6 hs6 (fun q5 e5 hq5 => ?_)
  refine x_topi (z := Int32.ofNat (rs.drop (rs.length - 4)).length) y2.symm ?_
  obtain ⟨m5, hm5⟩ : ∃ y : gM, y = (f_h_undo m4).2 := ⟨_, rfl⟩
  have z5 : (f_h_undo m4).2 0 5 = 0 := (y5 5 (by decide)).trans z4
  rw [← hm5] at y3 z5
  refine x_mu2 hm5 rfl ?_
  have R5 := y3
  clear y1 y2 y3 y5 hm5
  refine x_lve (lv' := [(0, .ref b), (1, .ref (q5 0)), (2, .ref (q5 132)), (3, .int (Int32.ofNat acts)), (4, .long (dgv r rs)), (6, .int (Int32.ofNat rs.length))]) (by rw [e5 0 (Or.inl (by decide)), e5 132 (Or.inr (Nat.le_of_eq len_shH))]) ?_
  refine x_if_lt (tgt := 372) C dL_law_353 (by decide) (fun w => absurd w n2) (fun _ => ?_)
  refine x_iload C dL_law_356 5 rfl ?_
  obtain ⟨b1, b2⟩ := drop_LI (rs.length - 4) (by omega) hI1.2.2.1 hI1.2.2.2
  refine x_iconst (v := (5 : Int32)) C dL_law_358 (by decide) ?_
  by_cases h5 : 5 ≤ rs.length
  · refine x_icmp_ge (tgt := 374) C dL_law_359 (by decide) (fun _ => ?_) (fun w => absurd ((leI (a := 5) (by omega) (by omega)).mpr h5) w)
    refine x_lv (lv' := [(0, .ref b), (1, .ref (q5 0)), (2, .ref (q5 132)), (3, .int (Int32.ofNat acts))]) [0, 1, 2, 3] rfl ?_
    exact K q5 m5 ν1 _ r _ ⟨R5, z5, b1, b2⟩ w1 hl4 (by omega) hq5
  · refine x_icmp_ge (tgt := 374) C dL_law_359 (by decide) (fun w => absurd ((leI (a := 5) (by omega) (by omega)).mp w) h5) (fun _ => ?_)
    refine x_aload_n C dL_law_362 rfl 1 rfl ?_
    have e0 : rs.drop (rs.length - 4) = rs := by rw [show rs.length - 4 = 0 by omega]; rfl
    rw [e0] at R5 b1 b2 hl4
    obtain ⟨d1, d2, d3⟩ := digQ R5 z5 (by omega)
    refine x_callVl (n := 0) C hq5 (gFr_lng (rest := [.inr (.inr (.inr 64))]) rfl wf_shH rfl) (c_h_digest l G q5 m5 ν1 d1) (cwV 0 C.2.2.2.2.2.1 gL_law_X2_digest rfl rfl rfl (by decide +kernel) ⟨Nat.le_of_ble_eq_true rfl, Nat.le_of_ble_eq_true rfl⟩) rfl rfl rfl rfl (Nat.le_of_ble_eq_true rfl) dL_law_363 hc6 hs6 ?_
    refine x_topl (z := dgv r rs) d2.symm ?_
    obtain ⟨m6, hm6⟩ : ∃ y : gM, y = (f_h_digest m5).2 := ⟨_, rfl⟩
    have R6 := Rq_trial R5 d3
    rw [← hm6] at R6
    have z6 : m6 0 5 = 0 := by rw [hm6, d3 0 (by omega)]; exact z5
    refine x_mu2 hm6 rfl ?_
    clear d1 d2 d3 hm6
    refine x_lload C dL_law_366 4 rfl ?_
    refine x_lcmp C dL_law_368 ?_
    refine x_topi (z := (0 : Int32)) (lg_same _).symm ?_
    refine x_if_eq (tgt := 374) C dL_law_369 (by decide) (fun _ => ?_) (fun w => absurd (by decide) w)
    refine x_lv (lv' := [(0, .ref b), (1, .ref (q5 0)), (2, .ref (q5 132)), (3, .int (Int32.ofNat acts))]) [0, 1, 2, 3] rfl ?_
    exact K q5 m6 ν1 _ r _ ⟨R6, z6, b1, b2⟩ w1 hl4 (by omega) hq5
set_option maxRecDepth 100000 in
set_option maxHeartbeats 4000000 in
theorem law_last {p : Program} {l : Launch} {e : Env} {s : State} {m9 : MethodId} {args : Array Value} {below : List Frame} {meth : Method} {c9 : Code} {G : gG} {A : Nat → Prop} {Q : State → Prop} (C : xC p s m9 args meth c9 G A 11 cL_law RL wsL_law) {b c cells slots : Nat} {q : Nat → Nat} {μ : gM} {ν : gN} {r : Nat → Int32} (hX : gX A s) (hl9 : l.stackTraces = false) (hc1 : cells + 1 ≤ room_1.cells) (hs1 : slots + 6 ≤ room_1.slots) (hR : Rq c μ r []) (hq : gD A q shL.length) (K : xJ p l e room_1 s m9 args below meth c9 G A 11 Q (cells + 1) (slots + 6) shL q μ ν [(0, .ref b), (1, .ref (q 0)), (2, .ref (q 132))] [] 436) : xJ p l e room_1 s m9 args below meth c9 G A 11 Q cells slots shL q μ ν [(0, .ref b), (1, .ref (q 0)), (2, .ref (q 132))] [] 422 := by
  refine x_aload_n C dL_law_422 rfl 1 rfl ?_
  refine x_bipush (v := (9 : Int32)) C dL_law_423 (by decide) ?_
  refine x_iconst (v := (0 : Int32)) C dL_law_425 (by decide) ?_
  refine x_iconst (v := (0 : Int32)) C dL_law_426 (by decide) ?_
  refine x_iconst (v := (0 : Int32)) C dL_law_427 (by decide) ?_
  refine x_callZw0 (n := 5) (shc := shH) (rest := [.inr (.inr (.inr 64))]) (cells' := cells + 1) (slots' := slots + 6) C rfl hq wf_shH rfl hX (cT_undo_IS l hl9 G q μ ν (0 : Int32) (0 : Int32) (0 : Int32) (undoX hR).1 (undoX hR).2) (vx_cwSW 5 C.2.2.2.2.2.1 gL_law_L_told rfl rfl rfl (by decide +kernel) ⟨Nat.le_of_ble_eq_true rfl, Nat.le_of_ble_eq_true rfl⟩) rfl rfl (Nat.le_of_ble_eq_true rfl) dL_law_428 rfl rfl hc1 hs1 ?_
  refine x_bipush (v := (-13 : Int32)) C dL_law_431 (by decide) ?_
  refine x_icmp_ne (tgt := 440) C dL_law_433 (by decide) (fun w => absurd (by decide) w) (fun _ => ?_)
  exact K
set_option maxRecDepth 20000 in
theorem kn_law : ∀ w ∈ lwN, w ∈ wsL_law := mem_r [0, 1, 2, 9, 10] rfl
theorem kx_law : ∀ w ∈ wsX20, w ∈ wsL_law := fun _ h => List.mem_append_left _ (List.mem_append_left _ (List.mem_append_left _ (List.mem_append_left _ (List.mem_append_left _ (List.mem_append_left _ (List.mem_append_right _ h))))))
set_option maxRecDepth 20000 in
theorem ka_law : Cond.arrayClass .long ∈ wsL_law := List.mem_of_getElem? (i := 3) rfl
set_option maxRecDepth 100000 in
set_option maxHeartbeats 4000000 in
theorem law_all {p : Program} {l : Launch} {e : Env} {s : State} {m9 : MethodId} {args : Array Value} {below : List Frame} {meth : Method} {c9 : Code} {G : gG} {A : Nat → Prop} {Q : State → Prop} (C : xC p s m9 args meth c9 G A 11 cL_law RL wsL_law) {b L : Nat} {xs : Nat → Int32} (hXs : va_X b L xs s s.heap) (hbl : b < s.heap.size) (hbA : ¬ A b) (hL : L ≤ 260) (hX : gX A s) (hl9 : l.stackTraces = false) (hE : gE s) {q : Nat → Nat} {μ : gM} {ν : gN} (hq : gD A q ([] : List gC).length) (fin : ∀ (q1 : Nat → Nat) (m1 : gM) (ν1 : gN) (cells1 slots1 : Nat), cells1 ≤ 600000 → slots1 ≤ 7000000 → xJ p l e room_1 s m9 args below meth c9 G A 11 Q cells1 slots1 shL q1 m1 ν1 [(0, .ref b), (1, .ref (q1 0)), (2, .ref (q1 132))] [] 436) : xJ p l e room_1 s m9 args below meth c9 G A 11 Q 0 0 [] q μ ν [(0, .ref b)] [] 0 := by
  refine x_callY (n := 0) (cells' := 389) (slots' := 7144) C hX hE (fun q0 μ0 ν0 => c_l_pages l hl9 G q0 μ0 ν0) (va_cwS 0 C.2.2.2.2.2.1 gL_law_L_pages rfl rfl rfl (by decide +kernel) ⟨Nat.le_of_ble_eq_true rfl, Nat.le_of_ble_eq_true rfl⟩) rfl rfl (Nat.le_of_ble_eq_true rfl) dL_law_0 rfl rfl (Nat.le_of_ble_eq_true rfl) (Nat.le_of_ble_eq_true rfl) ?_
  refine x_if_eq (tgt := 12) C dL_law_3 (by decide) (fun w => absurd w (by decide)) (fun _ => ?_)
  refine x_callY (n := 0) (cells' := 3429) (slots' := 80699) C hX hE (fun q0 μ0 ν0 => c_l_texts l hl9 G q0 μ0 ν0) (va_cwS 0 C.2.2.2.2.2.1 gL_law_L_texts rfl rfl rfl (by decide +kernel) ⟨Nat.le_of_ble_eq_true rfl, Nat.le_of_ble_eq_true rfl⟩) rfl rfl (Nat.le_of_ble_eq_true rfl) dL_law_6 rfl rfl (Nat.le_of_ble_eq_true rfl) (Nat.le_of_ble_eq_true rfl) ?_
  refine x_if_ne (tgt := 14) C dL_law_9 (by decide) (fun _ => ?_) (fun w => absurd w (by decide))
  refine x_newH (cells' := 3561) (slots' := 83896) C kn_law kx_law gL_law_X2_init (by decide) (by decide) hE hq dL_law_14 dL_law_17 dL_law_18 rfl rfl (Nat.le_of_ble_eq_true rfl) (Nat.le_of_ble_eq_true rfl) (fun q1 m1 h1 k1 k2 k3 hq1 => ?_)
  refine x_astore_n (lv' := [(0, .ref b), (1, .ref (q1 0))]) C dL_law_21 rfl (by decide) [1, 0] rfl ?_
  refine x_bipush (v := (64 : Int32)) C dL_law_22 (by decide) ?_
  refine x_newl (sh' := shL) (L := 132) (N' := 64) C hq1 wf_shH ka_law (by decide) (by decide) (by decide) (Nat.le_of_ble_eq_true rfl) (Nat.le_of_ble_eq_true rfl) dL_law_24 len_shH rfl (fun q2 e2 hq2 => ?_)
  refine x_lve (lv' := [(0, .ref b), (1, .ref (q2 0))]) (by rw [e2 0 (by decide)]) ?_
  refine x_astore_n (lv' := [(0, .ref b), (1, .ref (q2 0)), (2, .ref (q2 132))]) C dL_law_26 rfl (by decide) [1, 2, 0] rfl ?_
  refine x_iconst (v := (0 : Int32)) C dL_law_27 (by decide) ?_
  refine x_istore_n (lv' := [(0, .ref b), (1, .ref (q2 0)), (2, .ref (q2 132)), (3, .int (0 : Int32))]) C dL_law_28 rfl (by decide) [1, 2, 3, 0] rfl ?_
  refine x_iconst (v := (0 : Int32)) C dL_law_29 (by decide) ?_
  refine x_istore (lv' := [(0, .ref b), (1, .ref (q2 0)), (2, .ref (q2 132)), (3, .int (0 : Int32)), (4, .int (0 : Int32))]) C dL_law_30 (by decide) [1, 2, 3, 4, 0] rfl ?_
  obtain ⟨T, hT⟩ : ∃ T, pk row0 364 = T := ⟨_, rfl⟩
  have R0 : Rq 0 m1 (rwN T) [] := Rq_fresh k1 k2 hT
  have I0 : LI 0 0 m1 ((g_setN h1 132 (fun _ => 0)) 132) (rwN T) [] := ⟨R0, k3, Nat.le_refl _, fun i f hf => by cases hf⟩
  refine law_loop C hXs hbl hbA hL hX hl9 (fun q3 m3 ν3 c3 r3 acts3 cells3 slots3 rs3 i1 i2 i3 i4 i5 i6 => ?_) 24 0 rfl I0 (Nat.le_refl _) (Nat.zero_le _) (Nat.le_of_ble_eq_true rfl) (Nat.le_of_ble_eq_true rfl) hq2
  have hc3 : cells3 ≤ room_1.cells := by rw [rm1c]; omega
  have hs3 : slots3 ≤ room_1.slots := by rw [rm1s]; omega
  have hc36 : cells3 + 60 ≤ room_1.cells := by rw [rm1c]; omega
  have hs36 : slots3 + 360 ≤ room_1.slots := by rw [rm1s]; omega
  refine law_mid C hX hl9 hc3 hs3 hc36 hs36 i1 i2 i3 i6 (fun q4 m4 ν4 c4 r4 X j1 j2 j3 j4 j5 => ?_)
  refine x_iconst (v := (0 : Int32)) C dL_law_374 (by decide) ?_
  refine x_istore (lv' := [(0, .ref b), (1, .ref (q4 0)), (2, .ref (q4 132)), (3, .int (Int32.ofNat acts3)), (7, .int (Int32.ofNat 0))]) C dL_law_375 (by decide) [1, 2, 3, 4, 0] rfl ?_
  refine law_back C hc36 hs36 (by omega) i2 (fun q5 m5 r5 R5 hq5 => ?_) X.length 0 (by omega) rfl j1 j2 (Nat.zero_le _) j5
  refine law_last C hX hl9 (by rw [rm1c]; omega) (by rw [rm1s]; omega) R5 hq5 ?_
  exact fin q5 m5 ν4 (cells3 + 60 + 1) (slots3 + 360 + 6) (by omega) (by omega)
