/-! the law's own small methods: they call one of HintedPages, and catch -/
def g_refs (d : gC) : List Nat := match d with
  | .inl _ => []
  | .inr (.inl o) => o.2.filterMap (fun f => match f with | .inl j => some j | _ => none)
  | .inr (.inr (.inl ids)) => ids.filterMap (fun j => j)
  | .inr (.inr (.inr _)) => []
theorem g_flds_q {q1 q2 : Nat → Nat} {f : Nat → Int32} {h : Nat → Int64} : ∀ (ds : List gF) (b : Nat), (∀ j, Sum.inl j ∈ ds → q1 j = q2 j) → g_flds q1 f h b ds = g_flds q2 f h b ds := by
  intro ds
  induction ds with
  | nil => intro b _; rfl
  | cons d ds ih =>
    intro b hq
    simp only [g_flds, ih (b + 1) (fun j hj => hq j (List.mem_cons_of_mem _ hj))]
    congr 1
    rcases d with j | (_ | (_ | _))
    · simp only [g_fld]; rw [hq j List.mem_cons_self]
    · rfl
    · rfl
    · rfl
theorem g_cell_q {G : gG} {q1 q2 : Nat → Nat} {μ : gM} {ν : gN} {k : Nat} {d : gC} (h : ∀ j ∈ g_refs d, q1 j = q2 j) : g_cell G q1 μ ν k d = g_cell G q2 μ ν k d := by
  rcases d with n | (o | (ids | n))
  · rfl
  · simp only [g_cell]
    rw [g_flds_q o.2 0 (fun j hj => h j (by simp only [g_refs, List.mem_filterMap]; exact ⟨_, hj, rfl⟩))]
  · simp only [g_cell]
    congr 7
    funext i
    simp only [List.getD]
    cases hi : ids[i]? with
    | none => rfl
    | some x =>
      cases x with
      | none => rfl
      | some j =>
        show some (q1 j) = some (q2 j)
        rw [h j (by simp only [g_refs, List.mem_filterMap]; exact ⟨_, List.mem_of_getElem? hi, rfl⟩)]
  · rfl
def g_wf (sh : List gC) : Bool := sh.all (fun d => (g_refs d).all (fun j => decide (j < sh.length)))
theorem g_wf_at {sh : List gC} (h : g_wf sh = true) {k : Nat} {d : gC} (hd : sh[k]? = some d) : ∀ j ∈ g_refs d, j < sh.length := fun j hj => by
  have h1 := List.all_eq_true.mp h d (List.mem_of_getElem? hd)
  exact of_decide_eq_true (List.all_eq_true.mp h1 j hj)
def g_lng (d : gC) : Bool := match d with
  | .inr (.inr (.inr _)) => true
  | _ => false
theorem wd_pre {G : gG} {shc rest : List gC} {q : Nat → Nat} {μ : gM} {ν : gN} {H : Heap} (h : va_P G.1 vwCl (wd G q μ ν 0 (shc ++ rest)) H) : va_P G.1 vwCl (wd G q μ ν 0 shc) H := by
  intro k z hz
  obtain ⟨d, hd, rfl⟩ := wd_of hz
  exact h k _ (wd_at (by rw [List.getElem?_append_left (g_lt hd)]; exact hd))
theorem wd_back {G : gG} {shc rest : List gC} {q q' : Nat → Nat} {μ μ' : gM} {ν : gN} {H H1 : Heap} (hwf : g_wf shc = true) (hrest : rest.all g_lng = true) (hq : ∀ i j, i < (shc ++ rest).length → j < (shc ++ rest).length → q i = q j → i = j) (h : va_P G.1 vwCl (wd G q μ ν 0 (shc ++ rest)) H) (h1 : va_P G.1 vwCl (wd G q' μ' ν 0 shc) H1) (hk : ∀ a : Nat, a < H.size → ¬ gA q shc.length H.size a → H1[a]? = H[a]?) : va_P G.1 vwCl (wd G (fun k => if k < shc.length then q' k else q k) μ' ν 0 (shc ++ rest)) H1 := by
  intro k z hz
  obtain ⟨d, hd, rfl⟩ := wd_of hz
  by_cases hk9 : k < shc.length
  · have hd' : shc[k]? = some d := by rw [List.getElem?_append_left hk9] at hd; exact hd
    have h2 := h1 k _ (wd_at hd')
    rw [if_pos hk9, g_cell_q (q2 := q') (fun j hj => if_pos (g_wf_at hwf hd' j hj))]
    exact h2
  · have h2 := h k _ (wd_at hd)
    have hd' : rest[k - shc.length]? = some d := by rw [List.getElem?_append_right (Nat.not_lt.mp hk9)] at hd; exact hd
    have hl := List.all_eq_true.mp hrest d (List.mem_of_getElem? hd')
    have e : g_cell G (fun k => if k < shc.length then q' k else q k) μ' ν k d = g_cell G q μ ν k d := by
      rcases d with n | (o | (ids | n))
      · exact absurd hl (by simp [g_lng])
      · exact absurd hl (by simp [g_lng])
      · exact absurd hl (by simp [g_lng])
      · rfl
    rw [if_neg hk9, e]
    refine h2.kept (hk _ h2.lt ?_)
    rintro (⟨j, hj, hqj⟩ | hge)
    · have := hq k j (g_lt hd) (by rw [List.length_append]; omega) hqj
      omega
    · exact absurd h2.lt (Nat.not_lt.mpr hge)
def gQw (G : gG) (sh : List gC) (q : Nat → Nat) (ks : List Nat) (μ' : gM) (ν' : gN) (sz : Nat) (r : Int32) : Array Value → State → Outcome → State → Prop := va_Qi (fun r' (q' : Nat → Nat) => r' = r ∧ (∀ k ∈ ks, q' k = q k) ∧ gD (gA q sh.length sz) q' sh.length) (fun q' t => va_P G.1 vwCl (wd G q' μ' ν' 0 sh) t.heap) (gA q sh.length sz)
def gMw (l : Launch) (y : MethodName) (ws : List Cond) (rm : Room) (G : gG) (sh : List gC) (q : Nat → Nat) (ks : List Nat) (μ : gM) (ν : gN) (av : List Value) (μ' : gM) (ν' : gN) (r : Int32) : Prop := ∀ sz : Nat, Met l y ws rm (gPx G sh q μ ν sz av) (gQw G sh q ks μ' ν' sz r) 1 6 (gA q sh.length sz)
/-- a contract that moves nothing, as one that may -/
theorem gMpi_of {l : Launch} {y : MethodName} {ws : List Cond} {rm : Room} {G : gG} {sh : List gC} {q : Nat → Nat} {μ μ' : gM} {ν ν' : gN} {av : List Value} {r : Int32} (hw : ∀ w ∈ ws, True) (h : gMi l y ws rm G sh q μ ν av μ' ν' r) : ∀ sz, Met l y ws rm (gPc G sh q μ ν sz av) (gQi G sh q μ' ν' sz r) 0 0 (gA q sh.length sz) := h
theorem g_ofWH {l : Launch} {y : MethodName} {ws ws' : List Cond} {rm : Room} {Pc : Array Value → State → Prop} {Qc : Array Value → State → Outcome → State → Prop} {mc ms : Nat} {free : Addr → Prop} {cc : ByteArray} {maxL : Nat} {ret : Option FieldType} {hh : List (Nat × Nat × Nat × Nat)}
    (hy : plainName y.cls = true) (hw : ws = Cond.codeWith y cc maxL ret hh :: ws')
    (body : ∀ p e s m args below meth c s₁, BodyLoose p l y (headSpec ws rm) cc maxL ret e s m args below meth c s₁ → c.maxLocals = maxL → Pc args s →
      W p l e (headSpec ws rm).room s m args below meth c s.heap [] 0 0 (MQ below Qc args s mc ms free) (entryFrame m args maxL)) : Met l y ws rm Pc Qc mc ms free := by
  refine MetFree.of_bodyS (code := cc) (maxLocals := maxL) (ret := ret) hy ?_ ?_
  · intro args s m h hn
    obtain ⟨m9, meth, c, hn9, h1, h2, h3, h4, -, h5, h6, -⟩ := Cond.codeWith_spec (atoms_spec (ws := ws) h _ (by rw [hw]; exact List.mem_cons_self))
    cases hn.symm.trans hn9
    exact ⟨meth, c, h1, h2, h3, h4, h5, h6⟩
  · intro p e s m args below meth c s₁ B hml hP _
    have hh0 : s₁.heap = s.heap := by rw [B.state]; rfl
    obtain ⟨t, a1, o, b1, b2, b3⟩ := body p e s m args below meth c s₁ B hml hP s₁ hh0 (Stand.of_body B)
    exact ⟨t, o, a1, b1, b2, ⟨b3.1, b3.2⟩⟩
theorem g_metw {l : Launch} {y : MethodName} {ws ws' : List Cond} {rm : Room} {G : gG} {sh : List gC} {q : Nat → Nat} {μ : gM} {ν : gN} {av : List Value} {sz : Nat} {Qc : Nat → Array Value → State → Outcome → State → Prop} {cc : ByteArray} {maxL : Nat} {ret : Option FieldType} {own : String} {hh : List (Nat × Nat × Nat × Nat)} (hy : plainName y.cls = true) (ho : y.cls = own) (hw : ws = Cond.codeWith y cc maxL ret hh :: ws') (hlen : (lg_sl av).length ≤ maxL)
    (body : ∀ (p : Program) (e : Env) (s : State) (m : MethodId) (below : List Frame) (meth : Method) (c : Code), xC p s m av.toArray meth c G (gA q sh.length s.heap.size) maxL cc own ws → gD (gA q sh.length s.heap.size) q sh.length → gX (gA q sh.length s.heap.size) s → c.exceptionTable.toList = tableOf hh → meth.sig.returnType = ret → xJ p l e rm s m av.toArray below meth c G (gA q sh.length s.heap.size) maxL (MQ below (Qc s.heap.size) av.toArray s 1 6 (gA q sh.length s.heap.size)) 0 0 sh q μ ν (lv_args 0 av) [] 0) :
    Met l y ws rm (gPx G sh q μ ν sz av) (Qc sz) 1 6 (gA q sh.length sz) := by
  refine g_ofWH (cc := cc) (maxL := maxL) (ret := ret) (hh := hh) hy hw ?_
  intro p e s m args below meth c s₁ B hml hv
  obtain ⟨⟨rfl, rfl, hP, hK, hD⟩, hX⟩ := hv
  have hts := atoms_spec (ws := ws) B.pre
  have hA : ∀ a : Nat, s.heap.size ≤ a → gA q sh.length s.heap.size a := fun a h => Or.inr h
  have C : xC p s m av.toArray meth c G (gA q sh.length s.heap.size) maxL cc own ws := ⟨B.exec, B.bytes, B.notSynchronized, hml, ho ▸ findClass_of_methodNamed B.named, hts, hK, hA⟩
  have hq : gD (gA q sh.length s.heap.size) q sh.length := ⟨hD, fun k hk => Or.inl ⟨k, hk, rfl⟩⟩
  have htab : c.exceptionTable.toList = tableOf hh := vx_table (x := y) B (hts _ (by rw [hw]; exact List.mem_cons_self))
  have hl := lv_entry av (n := maxL) hlen
  rw [lg_entry_eq]
  exact body p e s m below meth c C hq hX htab B.returns s.heap [] _ hP va_S.rf hl
section XW
variable {p : Program} {l : Launch} {e : Env} {R : Room} {s : State} {m : MethodId} {args : Array Value} {below : List Frame} {meth : Method} {c : Code} {G : gG} {A : Nat → Prop} {nL : Nat} {Q : State → Prop} {cells slots : Nat} {sh shc rest : List gC} {q q' : Nat → Nat} {μ μ' : gM} {ν ν' : gN} {lv lv' : List (Nat × Value)} {st st' : List Value} {pc : Nat}
variable {cc : ByteArray} {own : String} {Ts : List Cond}
theorem x_wid {k n : Nat} (h1 : cells ≤ k) (h2 : slots ≤ n) (K : xJ p l e R s m args below meth c G A nL Q k n sh q μ ν lv st pc) : xJ p l e R s m args below meth c G A nL Q cells slots sh q μ ν lv st pc := fun H locs ls hP hS hl => W.widen h1 h2 (K H locs ls hP hS hl)
theorem x_last (C : xC p s m args meth c G A nL cc own Ts) (hq : gD A q sh.length) (k : Nat) {n : Nat} {i : Int32} {x : Int64} (hs : sh[k]? = some (.inr (.inr (.inr n)))) (hin : vp_in i n) (hν : ν' = g_setN ν k (vp_updL (ν k) i.toNatClampNeg x)) (hdg : decode cc pc = .ok (.lastore, 1)) (K : xJ p l e R s m args below meth c G A nL Q cells slots sh q μ ν' lv st (pc + 1)) : xJ p l e R s m args below meth c G A nL Q cells slots sh q μ ν lv (.long x :: .int i :: .ref (q k) :: st) pc := by
  intro H locs ls hP hS hl
  refine va_last (D := G.1) (cl := vwCl) (tys := gT G) C.1 C.2.1 C.2.2.2.2.2.2.1 hP (gD_wd hq G μ ν) hS k 1 (wd_at hs) rfl hin hdg (fun H1 locs1 hP1 _ hS1 => K H1 locs1 ls ?_ hS1 hl)
  have e : g_cell G q μ ν' k (.inr (.inr (.inr n))) = .inl (G.2.2.1, n, .inr (.inl (vp_updL (ν k) i.toNatClampNeg x))) := by
    rw [hν]; unfold g_cell; rw [g_setN_s]
  rw [← e, wd_set hs (μ' := μ) (ν' := ν') (fun j hj => ⟨rfl, by rw [hν]; exact g_setN_n hj⟩)] at hP1
  exact hP1
theorem x_lald (C : xC p s m args meth c G A nL cc own Ts) (k : Nat) {n : Nat} {i : Int32} {v : Int64} (hs : sh[k]? = some (.inr (.inr (.inr n)))) (hin : vp_in i n) (hv : ν k i.toNatClampNeg = v) (hdg : decode cc pc = .ok (.laload, 1)) (K : xJ p l e R s m args below meth c G A nL Q cells slots sh q μ ν lv (.long v :: st) (pc + 1)) : xJ p l e R s m args below meth c G A nL Q cells slots sh q μ ν lv (.int i :: .ref (q k) :: st) pc := by
  intro H locs ls hP hS hl
  subst hv
  exact va_lald (D := G.1) (cl := vwCl) (tys := gT G) C.1 C.2.1 C.2.2.2.2.2.2.1 hP k 1 (wd_at hs) rfl hin hdg (K H locs ls hP hS hl)
theorem g_wret (C : xC p s m args meth c G (gA q sh.length s.heap.size) nL cc own Ts) {ks : List Nat} (hq : gD (gA q sh.length s.heap.size) q' sh.length) (h4 : ∀ k ∈ ks, q' k = q k) {r v : Int32} (hr : meth.sig.returnType = some .int) (hdg : decode cc pc = .ok (.ireturn, 1)) (h1 : v = r) (h2 : μ = μ') (h3 : ν = ν') : xJ p l e R s m args below meth c G (gA q sh.length s.heap.size) nL (MQ below (gQw G sh q ks μ' ν' s.heap.size r) args s 1 6 (gA q sh.length s.heap.size)) 1 6 sh q' μ ν lv [.int v] pc := by
  intro H locs ls hP hS hl
  subst h1; subst h2; subst h3
  exact W.iret (v := v) C.1 C.2.1 hr (fun t ht hW => ⟨⟨v, q', rfl, ⟨rfl, h4, hq⟩, by show va_P _ _ _ t.heap; rw [ht]; exact hP⟩, hS.F ht⟩) hS.2.2 hdg C.2.2.1
variable {y : MethodName} {wsy : List Cond} {rm : Room} {index n maxL : Nat} {bytes : ByteArray} {ret : Option FieldType}
theorem g_preW (C : xC p s m args meth c G A nL cc own Ts) (hq : gD A q (shc ++ rest).length) {H : Heap} (hP : va_P G.1 vwCl (wd G q μ ν 0 (shc ++ rest)) H) {ci : Nat} {fs : List gF} {CN : String} {T : u_T} {N : Nat} (hs : shc[0]? = some (.inr (.inl (ci, fs)))) (hc : vwCl[ci]? = some (CN, T, N)) (as : List Value) : PreV s H CN (q 0) (gPc G shc q μ ν H.size (.ref (q 0) :: as)) as :=
  ⟨g_blind, va_recv C.2.2.2.2.2.2.1 (wd_pre hP) (ci := ci) (q0 := 0) hc (wd_at hs), fun U hU hW => ⟨rfl, by rw [hU], by rw [hU]; exact wd_pre hP, va_K.moved hW.alike C.2.2.2.2.2.2.1, fun i j hi hj h => hq.1 i j (by rw [List.length_append]; omega) (by rw [List.length_append]; omega) h⟩⟩
theorem g_frW (C : xC p s m args meth c G A nL cc own Ts) (hq : gD A q (shc ++ rest).length) {H : Heap} {locs : List Loc} (hS : va_S A s.heap H locs) : ∀ a, gA q shc.length H.size a → A a := by
  rintro a (⟨k, hk, rfl⟩ | h)
  · exact hq.2 k (by rw [List.length_append]; omega)
  · exact C.2.2.2.2.2.2.2 a (Nat.le_trans hS.1 h)
theorem g_dW (C : xC p s m args meth c G A nL cc own Ts) (hq : gD A q (shc ++ rest).length) {H : Heap} (hP : va_P G.1 vwCl (wd G q μ ν 0 (shc ++ rest)) H) {locs : List Loc} (hS : va_S A s.heap H locs) (h : gD (gA q shc.length H.size) q' shc.length) : gD A (fun k => if k < shc.length then q' k else q k) (shc ++ rest).length := by
  have hlt : ∀ k, k < (shc ++ rest).length → q k < H.size := fun k hk => (hP k _ (wd_at (List.getElem?_eq_getElem hk))).lt
  have hne : ∀ i j, i < shc.length → ¬ j < shc.length → j < (shc ++ rest).length → q' i ≠ q j := fun i j hi hj hj2 e => by
    rcases h.2 i hi with ⟨k, hk, e2⟩ | hge
    · have := hq.1 k j (by rw [List.length_append]; omega) hj2 (e2.symm.trans e)
      omega
    · rw [e] at hge
      exact absurd (hlt j hj2) (Nat.not_lt.mpr hge)
  refine ⟨fun i j hi hj hij => ?_, fun k hk => ?_⟩
  · by_cases h1 : i < shc.length
    · by_cases h2 : j < shc.length
      · simp only [if_pos h1, if_pos h2] at hij
        exact h.1 i j h1 h2 hij
      · simp only [if_pos h1, if_neg h2] at hij
        exact absurd hij (hne i j h1 h2 hj)
    · by_cases h2 : j < shc.length
      · simp only [if_neg h1, if_pos h2] at hij
        exact absurd hij.symm (hne j i h2 h1 hi)
      · simp only [if_neg h1, if_neg h2] at hij
        exact hq.1 i j hi hj hij
  · by_cases h1 : k < shc.length
    · simp only [if_pos h1]
      exact g_frW C hq hS _ (h.2 k h1)
    · simp only [if_neg h1]
      exact hq.2 k hk
theorem x_callWp (C : xC p s m args meth c G A nL cc own Ts) (hq : gD A q (shc ++ rest).length) (hwf : g_wf shc = true) (hrest : rest.all g_lng = true) {n4 : Nat} (h4 : n4 ≤ shc.length) {r : Int32} {as : List Value} {ci : Nat} {fs : List gF} {CN : String} {T : u_T} {N : Nat} (hM : gMpi l y wsy rm G shc q n4 μ ν (.ref (q 0) :: as) μ' ν r) (cw : CallW R s args own CN index y bytes maxL ret wsy rm 0 0 n) (hsc : shc[0]? = some (.inr (.inl (ci, fs)))) (hcl : vwCl[ci]? = some (CN, T, N)) (hn : as.length = n) (hst : st = as.reverse ++ .ref (q 0) :: st') (hsum : (st'.map fun v => v.category).sum ≤ 8) (hdg : decode cc pc = .ok (.invokevirtual index, 3)) (hc : cells ≤ R.cells) (hs : slots ≤ R.slots) (K : ∀ q', (∀ k, k < n4 ∨ shc.length ≤ k → q' k = q k) → gD A q' (shc ++ rest).length → xJ p l e R s m args below meth c G A nL Q cells slots (shc ++ rest) q' μ' ν lv (.int r :: st') (pc + 3)) : xJ p l e R s m args below meth c G A nL Q cells slots (shc ++ rest) q μ ν lv st pc := by
  intro H locs ls hP hS hl
  subst hst
  exact va_calli (va_runV (As := as) (rest := st') ⟨C.1, C.2.1, C.2.2.2.1, C.2.2.2.2.1, C.2.2.2.2.2.1⟩ (hM H.size) cw (g_preW C hq hP hsc hcl as) rfl hn hl.1 rfl (lv_room hsum) hdg ⟨hc, hs⟩) hS (fun a _ h => g_frW C hq hS a h) (g_frW C hq hS) (fun r' q' t H1 locs1 ht hvm hw hB hz hk hS1 => by
    have hw1 : r' = r := hw.1
    subst hw1
    have hB : va_P G.1 vwCl (wd G q' μ' ν 0 shc) t.heap := hB
    rw [ht] at hB
    refine K _ (fun k hk9 => ?_) (g_dW C hq hP hS hw.2.2) H1 locs1 ls (wd_back hwf hrest hq.1 hP hB hk) hS1 hl
    rcases hk9 with h | h
    · rw [if_pos (Nat.lt_of_lt_of_le h h4)]; exact hw.2.1 k h
    · rw [if_neg (Nat.not_lt.mpr h)])
theorem x_callWi (C : xC p s m args meth c G A nL cc own Ts) (hq : gD A q (shc ++ rest).length) (hwf : g_wf shc = true) (hrest : rest.all g_lng = true) {r : Int32} {as : List Value} {ci : Nat} {fs : List gF} {CN : String} {T : u_T} {N : Nat} (hM : gMi l y wsy rm G shc q μ ν (.ref (q 0) :: as) μ' ν r) (cw : CallW R s args own CN index y bytes maxL ret wsy rm 0 0 n) (hsc : shc[0]? = some (.inr (.inl (ci, fs)))) (hcl : vwCl[ci]? = some (CN, T, N)) (hn : as.length = n) (hst : st = as.reverse ++ .ref (q 0) :: st') (hsum : (st'.map fun v => v.category).sum ≤ 8) (hdg : decode cc pc = .ok (.invokevirtual index, 3)) (hc : cells ≤ R.cells) (hs : slots ≤ R.slots) (K : ∀ q', (∀ k, q' k = q k) → gD A q' (shc ++ rest).length → xJ p l e R s m args below meth c G A nL Q cells slots (shc ++ rest) q' μ' ν lv (.int r :: st') (pc + 3)) : xJ p l e R s m args below meth c G A nL Q cells slots (shc ++ rest) q μ ν lv st pc := by
  intro H locs ls hP hS hl
  subst hst
  exact va_calli (va_runV (As := as) (rest := st') ⟨C.1, C.2.1, C.2.2.2.1, C.2.2.2.2.1, C.2.2.2.2.2.1⟩ (hM H.size) cw (g_preW C hq hP hsc hcl as) rfl hn hl.1 rfl (lv_room hsum) hdg ⟨hc, hs⟩) hS (fun a _ h => g_frW C hq hS a h) (g_frW C hq hS) (fun r' u t H1 locs1 ht hvm hw hB hz hk hS1 => by
    have hw1 : r' = r := hw
    subst hw1
    have hB : va_P G.1 vwCl (wd G q μ' ν 0 shc) t.heap := hB
    rw [ht] at hB
    have e : (fun k => if k < shc.length then q k else q k) = q := by funext k; split <;> rfl
    have h9 := wd_back hwf hrest hq.1 hP hB hk
    rw [e] at h9
    exact K q (fun _ => rfl) hq H1 locs1 ls h9 hS1 hl)
theorem x_callWx (C : xC p s m args meth c G A nL cc own Ts) (hq : gD A q (shc ++ rest).length) (hwf : g_wf shc = true) (hrest : rest.all g_lng = true) (hX : gX A s) {E : String} {as : List Value} {ci : Nat} {fs : List gF} {CN : String} {T : u_T} {N : Nat} (hM : gMx l y wsy rm G shc q μ ν (.ref (q 0) :: as) E μ' ν) (cw : CallW R s args own CN index y bytes maxL ret wsy rm 1 6 n) (hsc : shc[0]? = some (.inr (.inl (ci, fs)))) (hcl : vwCl[ci]? = some (CN, T, N)) (hn : as.length = n) (hst : st = as.reverse ++ .ref (q 0) :: st') (hsum : (st'.map fun v => v.category).sum ≤ 8) (hdg : decode cc pc = .ok (.invokevirtual index, 3)) (hc : cells + 1 ≤ R.cells) (hs : slots + 6 ≤ R.slots)
    (pre : List ExceptionTableEntry) (x : ExceptionTableEntry) (suf : List ExceptionTableEntry) (hsplit : c.exceptionTable.toList = pre ++ x :: suf) (hpass : ∀ z ∈ pre, z.catchType ≠ 0 ∧ ∃ nm : String, Cond.classLink own z.catchType nm ∈ Ts ∧ (E, nm) ∈ g_ncs) (hx : covers x pc = true) (h0 : x.catchType ≠ 0) (hlink : Cond.classLink own x.catchType E ∈ Ts) (hcast : Cond.castable E E ∈ g_bad) {hpc : Nat} (hh : x.handlerPc = hpc)
    (K : ∀ q9 : Nat, xJ p l e R s m args below meth c G A nL Q (cells + 1) (slots + 6) (shc ++ rest) q μ' ν lv [.ref q9] hpc) : xJ p l e R s m args below meth c G A nL Q cells slots (shc ++ rest) q μ ν lv st pc := by
  intro H locs ls hP hS hl
  subst hst
  have hp0 := g_preW C hq hP hsc hcl as
  have hp : PreV s H CN (q 0) (gPx G shc q μ ν H.size (.ref (q 0) :: as)) as := ⟨g_blindx, hp0.2.1, fun U hU hW => ⟨hp0.2.2 U hU hW, gX_to hW hU hS (g_frW C hq hS) hX⟩⟩
  exact vx_calli (A1 := gA q shc.length H.size) (AX := gA q shc.length H.size) (post := fun _ (_ : Unit) => False) (px := fun (_ : Unit) => True) (B := fun _ _ => True) (BX := fun E' _ t => E' = E ∧ va_P G.1 vwCl (wd G q μ' ν 0 shc) t.heap) (vx_runV (As := as) (rest := st') ⟨C.1, C.2.1, C.2.2.2.1, C.2.2.2.2.1, C.2.2.2.2.2.1⟩ (hM H.size) cw hp rfl hn hl.1 rfl (lv_room hsum) hdg ⟨hc, hs⟩) hS (fun a _ h => g_frW C hq hS a h) (g_frW C hq hS) (fun a _ h => g_frW C hq hS a h) (fun E' ce q9 u t H1 locs1 ht hvm _ hB hz hk hS1 hce hcv hcl9 => by
    obtain ⟨rfl, hB⟩ := hB
    rw [ht] at hB
    have e : (fun k => if k < shc.length then q k else q k) = q := by funext k; split <;> rfl
    have h9 := wd_back hwf hrest hq.1 hP hB hk
    rw [e] at h9
    refine vx_catch (name := E') C.2.2.2.2.1 pre x suf hsplit (fun z hz9 => Or.inr ?_) hx h0 (C.2.2.2.2.2.1 _ hlink) (va_tabs (g_bad_on _ hcast) rfl (hX.2.2.2.2 _ hcast)) hce hcv hcl9 ?_
    · obtain ⟨a1, nm, a2, a3⟩ := hpass z hz9
      exact ⟨a1, nm, C.2.2.2.2.2.1 _ a2, hX.2.2.2.1 _ a3⟩
    · rw [hh]
      exact K q9 H1 locs1 ls h9 hS1 hl) (fun r' u t H1 locs1 ht hvm hw hB hz hk hS1 => False.elim hw)
end XW
