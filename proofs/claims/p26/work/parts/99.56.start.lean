/-! the law's start: what the tables say of classes and arrays -/
theorem g_arrI {args : Array Value} {s : State} (h : (Cond.arrayClass .int).before args s = true) : ∃ cA, ArrOfT s cA .int ∧ va_RA s cA .int := by
  obtain ⟨cA, kA, comp, h1, h2, h3⟩ := Cond.arrayClass_spec h
  exact ⟨cA, fun n z => ⟨fun k h => (by cases h), kA, h2, comp, h3⟩, h1⟩
theorem g_arrJ {args : Array Value} {s : State} (h : (Cond.arrayClass .long).before args s = true) : ∃ cA, ArrOfT s cA .long ∧ va_RA s cA .long := by
  obtain ⟨cA, kA, comp, h1, h2, h3⟩ := Cond.arrayClass_spec h
  exact ⟨cA, fun n z => ⟨fun k h => (by cases h), kA, h2, comp, h3⟩, h1⟩
theorem g_arrS {args : Array Value} {s : State} {C : String} (h : (Cond.arrayOver (.object C)).before args s = true) : ∃ cA, ArrOfT s cA (.object C) ∧ va_RA s cA (.object C) := by
  obtain ⟨comp, cA, kA, h1, h2, h3, h4, h5⟩ := Cond.arrayOver_spec h
  exact ⟨cA, fun n z => ⟨fun k h => (by cases h), kA, h3, comp, h4⟩, kA, comp, h3, h4, h1, h5⟩
theorem g_K0 {args : Array Value} {s : State} (hts : ∀ w ∈ wsL_law, w.before args s = true) (h0 : (Cond.instantiable RX0 4).before args s = true) (h1 : (Cond.instantiable RX1 17).before args s = true) (h2 : (Cond.instantiable RX2 7).before args s = true) (hi : (Cond.arrayClass .int).before args s = true) (hj : (Cond.arrayClass .long).before args s = true) (ho : (Cond.arrayOver (.object "HintedPages$Store")).before args s = true) : ∃ G : gG, gK G s := by
  obtain ⟨c0, i0, k0⟩ := u_known (C := RX0) (T := TX0) (N := 4) (n := 4) hts inlX0 h0
  obtain ⟨c1, i1, k1⟩ := u_known (C := RX1) (T := TX1) (N := 17) (n := 17) hts inlX1 h1
  obtain ⟨c2, i2, k2⟩ := u_known (C := RX2) (T := TX2) (N := 7) (n := 7) hts inlX2 h2
  obtain ⟨cI, aI⟩ := g_arrI hi
  obtain ⟨cJ, aJ⟩ := g_arrJ hj
  obtain ⟨cS, aS⟩ := g_arrS ho
  refine ⟨((fun k => if k = 0 then c0 else if k = 1 then c1 else c2, fun k => if k = 0 then i0 else if k = 1 then i1 else i2), cI, cJ, cS), fun k z hz => ?_, fun k z hz => ?_⟩
  · match k, hz with
    | 0, hz => cases hz; exact k0
    | 1, hz => cases hz; exact k1
    | 2, hz => cases hz; exact k2
    | k + 3, hz => simp at hz
  · match k, hz with
    | 0, hz => cases hz; exact aI
    | 1, hz => cases hz; exact aJ
    | 2, hz => cases hz; exact aS
    | k + 3, hz => simp [gT] at hz
def stWs : List Cond := [Cond.instantiable RX0 4, Cond.instantiable RX1 17, Cond.instantiable RX2 7, Cond.arrayClass .int, Cond.arrayClass .long, Cond.arrayOver (.object "HintedPages$Store"), Cond.methodLinkNest RX2 36 yX0_init "HintedPages", Cond.laysStatic Bundle.tN "UNASSIGNED_STACK" Bundle.steD, Cond.laysStatic Bundle.tN "SUPPRESSED_SENTINEL" Bundle.listD, Cond.initialized Bundle.tN]
def stStr : List Cond := g_strs.map (fun x => Cond.stringRef RX2 x.1 x.2)
set_option maxRecDepth 20000 in
theorem stWs_in : ∀ w ∈ stWs, w ∈ lw_tbl := mem_r [115, 49, 41, 112, 670, 113, 116, 192, 194, 31] (by decide +kernel)
set_option maxRecDepth 20000 in
theorem g_bad_in : ∀ w ∈ g_bad, w ∈ lw_tbl := mem_r [167, 235, 326, 169, 171, 173] (by decide +kernel)
set_option maxRecDepth 20000 in
theorem stStr_in : ∀ w ∈ stStr, w ∈ lw_tbl := mem_r [206, 242, 319, 509, 514, 516, 522, 528, 532, 537, 538, 583, 333, 344, 596, 602, 459] (by decide +kernel)
theorem g_K1 {args : Array Value} {s : State} (hts : ∀ w ∈ lw_tbl, w.before args s = true) : ∃ G : gG, gK G s := by
  have h : ∀ w ∈ stWs, w.before args s = true := fun w hw => hts w (stWs_in w hw)
  exact g_K0 (fun w hw => hts w (wsL_law_in w hw)) (h _ (by simp [stWs])) (h _ (by simp [stWs])) (h _ (by simp [stWs])) (h _ (by simp [stWs])) (h _ (by simp [stWs])) (h _ (by simp [stWs]))
theorem g_E1 {args : Array Value} {s : State} (hts : ∀ w ∈ lw_tbl, w.before args s = true) : gE s := by
  have h : ∀ w ∈ stWs, w.before args s = true := fun w hw => hts w (stWs_in w hw)
  exact ⟨va_AO.of (h _ (by simp [stWs])), va_tabs rfl rfl (h (Cond.methodLinkNest RX2 36 yX0_init "HintedPages") (by simp [stWs]))⟩
theorem g_str1 {args : Array Value} {s : State} {own tx : String} {k : Nat} (h1 : (Cond.stringRef own k tx).before args s = true) (h2 : (Cond.exactly (Term.string own k) "java/lang/String").before args s = true) : ∃ sa, vk_R own k tx sa s := by
  obtain ⟨a, _, _, _, ha, _⟩ := Cond.exactly_spec h2
  exact ⟨a, vk_R.of h1 ha⟩
set_option maxRecDepth 20000 in
theorem g_X1 {args : Array Value} {s : State} {A : Nat → Prop} (hA : ∀ a : Nat, a < s.heap.size → ¬ A a) (hts : ∀ w ∈ lw_tbl, w.before args s = true) (hgv : (Jvm.Cond.and given_1 narrow_1).before args s = true) : gX A s := by
  have h : ∀ w ∈ stWs, w.before args s = true := fun w hw => hts w (stWs_in w hw)
  have hs := flat_of_before _ hgv
  refine ⟨vx_Zqof (h _ (by simp [stWs])) (h _ (by simp [stWs])) (hs _ (by decide +kernel)) hA, vx_Zqof (h _ (by simp [stWs])) (h _ (by simp [stWs])) (hs _ (by decide +kernel)) hA, fun x hx => ?_, fun x hx => ?_, fun w hw => va_tabs (g_bad_on w hw) rfl (hts w (g_bad_in w hw))⟩
  · have h1 : (Cond.stringRef RX2 x.1 x.2).before args s = true := hts _ (stStr_in _ (List.mem_map.mpr ⟨x, hx, rfl⟩))
    refine g_str1 h1 ?_
    have h2 : ∀ x ∈ g_strs, (Cond.exactly (Term.string RX2 x.1) "java/lang/String") ∈ flatC (Jvm.Cond.and given_1 narrow_1) := by decide +kernel
    exact hs _ (h2 x hx)
  · refine va_Nc.of (args := args) ?_
    have h2 : ∀ x ∈ g_ncs, (Cond.not (.castable x.1 x.2)) ∈ flatC (Jvm.Cond.and given_1 narrow_1) := by decide +kernel
    exact hs _ (h2 x hx)
