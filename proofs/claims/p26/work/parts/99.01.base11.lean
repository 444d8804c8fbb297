/-! the law's methods: calls on an object in front of long cells, throws that pass, worlds that begin empty -/
theorem gFr_lng {G : gG} {sh shc rest : List gC} {q : Nat → Nat} {μ μr : gM} {ν : gN} (hsh : sh = shc ++ rest) (hwf : g_wf shc = true) (hrest : rest.all g_lng = true) : gFr G sh q μ ν shc q μ ν μr ν μr ν := by
  subst hsh
  refine ⟨fun H h => wd_pre h, fun hi i j hii hjj hxy => hi i j (by rw [List.length_append]; omega) (by rw [List.length_append]; omega) hxy, fun k hk => ⟨k, by rw [List.length_append]; omega, rfl⟩, fun H H1 hi hP hP1 hk => ?_⟩
  have e : (fun k => if k < shc.length then q k else q k) = q := by funext k; split <;> rfl
  have h9 := wd_back hwf hrest hi hP hP1 hk
  rw [e] at h9
  exact h9
/-- a contract that may throw within, that makes cells and moves them -/
def gMz (l : Launch) (y : MethodName) (ws : List Cond) (rm : Room) (G : gG) (sh : List gC) (q : Nat → Nat) (n4 : Nat) (μ : gM) (ν : gN) (av : List Value) (μ' : gM) (ν' : gN) (r : Int32) (mc ms : Nat) : Prop := ∀ sz : Nat, Met l y ws rm (gPx G sh q μ ν sz av) (gQpi G sh q n4 μ' ν' sz r) mc ms (gA q sh.length sz)
/-- the same, and the cells stay where they are -/
def gMs (l : Launch) (y : MethodName) (ws : List Cond) (rm : Room) (G : gG) (sh : List gC) (q : Nat → Nat) (μ : gM) (ν : gN) (av : List Value) (μ' : gM) (ν' : gN) (r : Int32) (mc ms : Nat) : Prop := ∀ sz : Nat, Met l y ws rm (gPx G sh q μ ν sz av) (gQi G sh q μ' ν' sz r) mc ms (gA q sh.length sz)
theorem g_metz {l : Launch} {y : MethodName} {ws ws' : List Cond} {rm : Room} {G : gG} {sh : List gC} {q : Nat → Nat} {μ : gM} {ν : gN} {av : List Value} {sz mc ms : Nat} {Qc : Nat → Array Value → State → Outcome → State → Prop} {cc : ByteArray} {maxL : Nat} {ret : Option FieldType} {own : String} (hy : plainName y.cls = true) (ho : y.cls = own) (hw : ws = Cond.code y cc maxL ret :: ws') (hlen : (lg_sl av).length ≤ maxL)
    (body : ∀ (p : Program) (e : Env) (s : State) (m : MethodId) (below : List Frame) (meth : Method) (c : Code), xC p s m av.toArray meth c G (gA q sh.length s.heap.size) maxL cc own ws → gD (gA q sh.length s.heap.size) q sh.length → gX (gA q sh.length s.heap.size) s → meth.sig.returnType = ret → xJ p l e rm s m av.toArray below meth c G (gA q sh.length s.heap.size) maxL (MQ below (Qc s.heap.size) av.toArray s mc ms (gA q sh.length s.heap.size)) 0 0 sh q μ ν (lv_args 0 av) [] 0) :
    Met l y ws rm (gPx G sh q μ ν sz av) (Qc sz) mc ms (gA q sh.length sz) := by
  refine Met.ofW (cc := cc) (maxL := maxL) (ret := ret) hy hw ?_
  intro p e s m args below meth c s₁ B hml hv
  obtain ⟨⟨rfl, rfl, hP, hK, hD⟩, hX⟩ := hv
  have hts := atoms_spec (ws := ws) B.pre
  have hA : ∀ a : Nat, s.heap.size ≤ a → gA q sh.length s.heap.size a := fun a h => Or.inr h
  have C : xC p s m av.toArray meth c G (gA q sh.length s.heap.size) maxL cc own ws := ⟨B.exec, B.bytes, B.notSynchronized, hml, ho ▸ findClass_of_methodNamed B.named, hts, hK, hA⟩
  have hq : gD (gA q sh.length s.heap.size) q sh.length := ⟨hD, fun k hk => Or.inl ⟨k, hk, rfl⟩⟩
  have hl := lv_entry av (n := maxL) hlen
  rw [lg_entry_eq]
  exact body p e s m below meth c C hq hX B.returns s.heap [] _ hP va_S.rf hl
/-- what a method wants that begins with no cells: to throw and to make objects -/
def gPy (G : gG) (q : Nat → Nat) (μ : gM) (ν : gN) (sz : Nat) (av : List Value) : Array Value → State → Prop := fun v U => gPx G [] q μ ν sz av v U ∧ gE U
theorem g_blindy {G : gG} {q : Nat → Nat} {μ : gM} {ν : gN} {sz : Nat} {av : List Value} : FrameBlind (gPy G q μ ν sz av) := fun a U g mk h => ⟨g_blindx a U g mk h.1, gE_calling h.2⟩
def gMy (l : Launch) (y : MethodName) (ws : List Cond) (rm : Room) (G : gG) (q : Nat → Nat) (μ : gM) (ν : gN) (av : List Value) (r : Int32) (mc ms : Nat) : Prop := ∀ sz : Nat, Met l y ws rm (gPy G q μ ν sz av) (gQi G [] q μ ν sz r) mc ms (gA q ([] : List gC).length sz)
theorem g_mety {l : Launch} {y : MethodName} {ws ws' : List Cond} {rm : Room} {G : gG} {q : Nat → Nat} {μ : gM} {ν : gN} {av : List Value} {sz mc ms : Nat} {Qc : Nat → Array Value → State → Outcome → State → Prop} {cc : ByteArray} {maxL : Nat} {ret : Option FieldType} {own : String} (hy : plainName y.cls = true) (ho : y.cls = own) (hw : ws = Cond.code y cc maxL ret :: ws') (hlen : (lg_sl av).length ≤ maxL)
    (body : ∀ (p : Program) (e : Env) (s : State) (m : MethodId) (below : List Frame) (meth : Method) (c : Code), xC p s m av.toArray meth c G (gA q ([] : List gC).length s.heap.size) maxL cc own ws → gD (gA q ([] : List gC).length s.heap.size) q ([] : List gC).length → gX (gA q ([] : List gC).length s.heap.size) s → gE s → meth.sig.returnType = ret → xJ p l e rm s m av.toArray below meth c G (gA q ([] : List gC).length s.heap.size) maxL (MQ below (Qc s.heap.size) av.toArray s mc ms (gA q ([] : List gC).length s.heap.size)) 0 0 [] q μ ν (lv_args 0 av) [] 0) :
    Met l y ws rm (gPy G q μ ν sz av) (Qc sz) mc ms (gA q ([] : List gC).length sz) := by
  refine Met.ofW (cc := cc) (maxL := maxL) (ret := ret) hy hw ?_
  intro p e s m args below meth c s₁ B hml hv
  obtain ⟨⟨⟨rfl, rfl, hP, hK, hD⟩, hX⟩, hE⟩ := hv
  have hts := atoms_spec (ws := ws) B.pre
  have hA : ∀ a : Nat, s.heap.size ≤ a → gA q ([] : List gC).length s.heap.size a := fun a h => Or.inr h
  have C : xC p s m av.toArray meth c G (gA q ([] : List gC).length s.heap.size) maxL cc own ws := ⟨B.exec, B.bytes, B.notSynchronized, hml, ho ▸ findClass_of_methodNamed B.named, hts, hK, hA⟩
  have hq : gD (gA q ([] : List gC).length s.heap.size) q ([] : List gC).length := ⟨hD, fun k hk => Or.inl ⟨k, hk, rfl⟩⟩
  have hl := lv_entry av (n := maxL) hlen
  rw [lg_entry_eq]
  exact body p e s m below meth c C hq hX hE B.returns s.heap [] _ hP va_S.rf hl
section XZ
variable {p : Program} {l : Launch} {e : Env} {R : Room} {s : State} {m : MethodId} {args : Array Value} {below : List Frame} {meth : Method} {c : Code} {G : gG} {A : Nat → Prop} {nL : Nat} {Q : State → Prop} {cells slots : Nat} {sh shc rest : List gC} {q q' : Nat → Nat} {μ μ' : gM} {ν ν' : gN} {lv lv' : List (Nat × Value)} {st st' : List Value} {pc : Nat}
variable {cc : ByteArray} {own : String} {Ts : List Cond}
theorem x_lshr (C : xC p s m args meth c G A nL cc own Ts) {x v : Int64} {y : Int32} (d : decode cc pc = .ok (.lshr, 1)) (hv : x >>> (y.toInt64 &&& 63) = v) (k : xJ p l e R s m args below meth c G A nL Q cells slots sh q μ ν lv (.long v :: st) (pc + 1)) : xJ p l e R s m args below meth c G A nL Q cells slots sh q μ ν lv (.int y :: .long x :: st) pc := fun H locs ls hP hS hl => lv_lshr C.1 C.2.1 d hv (k H locs ls hP hS hl)
theorem x_land (C : xC p s m args meth c G A nL cc own Ts) {x y : Int64} (d : decode cc pc = .ok (.land, 1)) (k : xJ p l e R s m args below meth c G A nL Q cells slots sh q μ ν lv (.long (x &&& y) :: st) (pc + 1)) : xJ p l e R s m args below meth c G A nL Q cells slots sh q μ ν lv (.long y :: .long x :: st) pc := fun H locs ls hP hS hl => lv_land C.1 C.2.1 d (k H locs ls hP hS hl)
theorem x_l2i (C : xC p s m args meth c G A nL cc own Ts) {x : Int64} {v : Int32} (d : decode cc pc = .ok (.l2i, 1)) (hv : x.toInt32 = v) (k : xJ p l e R s m args below meth c G A nL Q cells slots sh q μ ν lv (.int v :: st) (pc + 1)) : xJ p l e R s m args below meth c G A nL Q cells slots sh q μ ν lv (.long x :: st) pc := fun H locs ls hP hS hl => lv_l2i C.1 C.2.1 d hv (k H locs ls hP hS hl)
theorem x_ixor (C : xC p s m args meth c G A nL cc own Ts) {x y : Int32} (d : decode cc pc = .ok (.ixor, 1)) (k : xJ p l e R s m args below meth c G A nL Q cells slots sh q μ ν lv (.int (x ^^^ y) :: st) (pc + 1)) : xJ p l e R s m args below meth c G A nL Q cells slots sh q μ ν lv (.int y :: .int x :: st) pc := fun H locs ls hP hS hl => lv_ixor C.1 C.2.1 d (k H locs ls hP hS hl)
/-- the end of a method that keeps no cell -/
theorem g_iret0 {q0 : Nat → Nat} {μ0 : gM} {ν0 : gN} {mc ms : Nat} (C : xC p s m args meth c G (gA q0 ([] : List gC).length s.heap.size) nL cc own Ts) {r v : Int32} {rt : FieldType} (hr : meth.sig.returnType = some rt) (hn : narrow rt (.int v) = .int v) (hdg : decode cc pc = .ok (.ireturn, 1)) (h1 : v = r) (hc : cells ≤ mc) (hs : slots ≤ ms) : xJ p l e R s m args below meth c G (gA q0 ([] : List gC).length s.heap.size) nL (MQ below (gQi G [] q0 μ0 ν0 s.heap.size r) args s mc ms (gA q0 ([] : List gC).length s.heap.size)) cells slots sh q μ ν lv [.int v] pc := by
  refine x_wid hc hs ?_
  intro H locs ls hP hS hl
  subst h1
  exact W.zret (v := v) C.1 C.2.1 hr hn (fun t ht hW => ⟨⟨v, (), rfl, rfl, fun k z hz => absurd hz (by simp [wd])⟩, hS.F ht⟩) hS.2.2 hdg C.2.2.1
theorem g_sret (C : xC p s m args meth c G (gA q sh.length s.heap.size) nL cc own Ts) {mc ms : Nat} {r v : Int32} {rt : FieldType} (hr : meth.sig.returnType = some rt) (hn : narrow rt (.int v) = .int v) (hdg : decode cc pc = .ok (.ireturn, 1)) (h1 : v = r) (h2 : μ = μ') (h3 : ν = ν') (hc : cells ≤ mc) (hs : slots ≤ ms) : xJ p l e R s m args below meth c G (gA q sh.length s.heap.size) nL (MQ below (gQi G sh q μ' ν' s.heap.size r) args s mc ms (gA q sh.length s.heap.size)) cells slots sh q μ ν lv [.int v] pc := by
  refine x_wid hc hs ?_
  intro H locs ls hP hS hl
  subst h1; subst h2; subst h3
  exact W.zret (v := v) C.1 C.2.1 hr hn (fun t ht hW => ⟨⟨v, (), rfl, rfl, by show va_P _ _ _ t.heap; rw [ht]; exact hP⟩, hS.F ht⟩) hS.2.2 hdg C.2.2.1
theorem g_pzret (C : xC p s m args meth c G (gA q sh.length s.heap.size) nL cc own Ts) {n4 mc ms : Nat} (hq : gD (gA q sh.length s.heap.size) q' sh.length) (h4 : ∀ k, k < n4 → q' k = q k) {r v : Int32} {rt : FieldType} (hr : meth.sig.returnType = some rt) (hn : narrow rt (.int v) = .int v) (hdg : decode cc pc = .ok (.ireturn, 1)) (h1 : v = r) (h2 : μ = μ') (h3 : ν = ν') (hc : cells ≤ mc) (hs : slots ≤ ms) : xJ p l e R s m args below meth c G (gA q sh.length s.heap.size) nL (MQ below (gQpi G sh q n4 μ' ν' s.heap.size r) args s mc ms (gA q sh.length s.heap.size)) cells slots sh q' μ ν lv [.int v] pc := by
  refine x_wid hc hs ?_
  intro H locs ls hP hS hl
  subst h1; subst h2; subst h3
  exact W.zret (v := v) C.1 C.2.1 hr hn (fun t ht hW => ⟨⟨v, q', rfl, ⟨rfl, h4, hq⟩, by show va_P _ _ _ t.heap; rw [ht]; exact hP⟩, hS.F ht⟩) hS.2.2 hdg C.2.2.1
variable {y : MethodName} {wsy : List Cond} {rm : Room} {index n maxL : Nat} {bytes : ByteArray} {ret : Option FieldType} {hh : List (Nat × Nat × Nat × Nat)}
theorem x_callSpi (C : xC p s m args meth c G A nL cc own Ts) (hq : gD A q sh.length) {n4 : Nat} {r : Int32} {av : List Value} (hM : gMpi l y wsy rm G sh q n4 μ ν av μ' ν' r) (cw : CallB R s args own index y bytes maxL ret wsy rm 0 0 n ∧ (Cond.static y).before args s = true) (hn : av.length = n) (hst : st = av.reverse ++ st') (hsum : (st'.map fun v => v.category).sum ≤ 8) (hdg : decode cc pc = .ok (.invokestatic index, 3)) (hc : cells ≤ R.cells) (hs : slots ≤ R.slots) (K : ∀ q', (∀ k, k < n4 → q' k = q k) → gD A q' sh.length → xJ p l e R s m args below meth c G A nL Q cells slots sh q' μ' ν' lv (.int r :: st') (pc + 3)) : xJ p l e R s m args below meth c G A nL Q cells slots sh q μ ν lv st pc := by
  intro H locs ls hP hS hl
  subst hst
  exact va_calli (va_runS (As := av) (rest := st') ⟨C.1, C.2.1, C.2.2.2.1, C.2.2.2.2.1, C.2.2.2.2.2.1⟩ (hM H.size) cw (g_preS C hq (gFr_same (μ' := μ) (ν' := ν)) hP av) rfl hn hl.1 rfl (lv_room hsum) hdg ⟨hc, hs⟩) hS (fun a _ h => g_frA C hq (gFr_same (μ := μ) (ν := ν) (μ' := μ) (ν' := ν) (G := G)) hS a h) (g_frA C hq (gFr_same (μ := μ) (ν := ν) (μ' := μ) (ν' := ν) (G := G)) hS) (fun r' q' t H1 locs1 ht hvm hw hB hz hk hS1 => by
    have hw1 : r' = r := hw.1
    subst hw1
    have hB : va_P G.1 vwCl (wd G q' μ' ν' 0 sh) t.heap := hB
    rw [ht] at hB
    exact K q' hw.2.1 (g_dA hq C hS hw.2.2) H1 locs1 ls hB hS1 hl)
/-- a callee throws, and nothing catches it here -/
theorem x_thrV (C : xC p s m args meth c G (gA q sh.length s.heap.size) nL cc own Ts) (hq : gD (gA q sh.length s.heap.size) q sh.length) (hX : gX (gA q sh.length s.heap.size) s) (htab : ∀ x ∈ c.exceptionTable.toList, False) {E : String} {as : List Value} {ci : Nat} {fs : List gF} {CN : String} {T : u_T} {N : Nat} (hM : gMx l y wsy rm G sh q μ ν (.ref (q 0) :: as) E μ' ν') (cw : CallW R s args own CN index y bytes maxL ret wsy rm 1 6 n) (hsc : sh[0]? = some (.inr (.inl (ci, fs)))) (hcl : vwCl[ci]? = some (CN, T, N)) (hn : as.length = n) (hst : st = as.reverse ++ .ref (q 0) :: st') (hsum : (st'.map fun v => v.category).sum ≤ 8) (hdg : decode cc pc = .ok (.invokevirtual index, 3)) (hc : 1 ≤ R.cells) (hs : 6 ≤ R.slots) :
    xJ p l e R s m args below meth c G (gA q sh.length s.heap.size) nL (vx_MQ below (gQx q sh.length s.heap.size) (gXC G sh q E μ' ν' s.heap.size) args s 1 6 (gA q sh.length s.heap.size)) 0 0 sh q μ ν lv st pc := by
  intro H locs ls hP hS hl
  subst hst
  have hF : gFr G sh q μ ν sh q μ ν μ ν μ ν := gFr_same
  have hp0 := g_preV C hq hF hP hsc hcl as
  have hp : PreV s H CN (q 0) (gPx G sh q μ ν H.size (.ref (q 0) :: as)) as := ⟨g_blindx, hp0.2.1, fun U hU hW => ⟨hp0.2.2 U hU hW, gX_to hW hU hS (g_frA C hq hF hS) hX⟩⟩
  exact vx_calli (A1 := gA q sh.length H.size) (AX := gA q sh.length H.size) (post := fun _ (_ : Unit) => False) (px := fun (_ : Unit) => True) (B := fun _ _ => True) (BX := fun E' _ t => E' = E ∧ va_P G.1 vwCl (wd G q μ' ν' 0 sh) t.heap) (vx_runV (As := as) (rest := st') ⟨C.1, C.2.1, C.2.2.2.1, C.2.2.2.2.1, C.2.2.2.2.2.1⟩ (hM H.size) cw hp rfl hn hl.1 rfl (lv_room hsum) hdg ⟨by omega, by omega⟩) hS (fun a _ h => g_frA C hq hF hS a h) (g_frA C hq hF hS) (fun a _ h => g_frA C hq hF hS a h) (fun E' ce q9 u t H1 locs1 ht hvm _ hB hz hk hS1 hce hcv hcl9 => by
    obtain ⟨rfl, hB⟩ := hB
    rw [ht] at hB
    exact vx_out (E := E') (fun x hx => (htab x hx).elim) C.2.2.1 hce hcv hcl9 (fun t2 ht2 _ => ⟨(), trivial, ⟨rfl, by rw [ht2]; exact hB⟩, hS1.F ht2⟩) hS1.2.2 (by omega) (by omega)) (fun r' u t H1 locs1 ht hvm hw hB hz hk hS1 => False.elim hw)
/-- a static callee throws, and it is caught here -/
theorem x_catS (C : xC p s m args meth c G A nL cc own Ts) (hq : gD A q sh.length) (hX : gX A s) {E : String} {av : List Value} (hM : gMx l y wsy rm G sh q μ ν av E μ' ν') (cw : CallB R s args own index y bytes maxL ret wsy rm 1 6 n ∧ (Cond.static y).before args s = true) (hn : av.length = n) (hst : st = av.reverse ++ st') (hsum : (st'.map fun v => v.category).sum ≤ 8) (hdg : decode cc pc = .ok (.invokestatic index, 3)) (hc : cells + 1 ≤ R.cells) (hs : slots + 6 ≤ R.slots)
    (pre : List ExceptionTableEntry) (x : ExceptionTableEntry) (suf : List ExceptionTableEntry) (hsplit : c.exceptionTable.toList = pre ++ x :: suf) (hpass : ∀ z ∈ pre, z.catchType ≠ 0 ∧ ∃ nm : String, Cond.classLink own z.catchType nm ∈ Ts ∧ (E, nm) ∈ g_ncs) (hx : covers x pc = true) (h0 : x.catchType ≠ 0) (hlink : Cond.classLink own x.catchType E ∈ Ts) (hcast : Cond.castable E E ∈ g_bad) {hpc : Nat} (hh9 : x.handlerPc = hpc)
    (K : ∀ q9 : Nat, xJ p l e R s m args below meth c G A nL Q (cells + 1) (slots + 6) sh q μ' ν' lv [.ref q9] hpc) : xJ p l e R s m args below meth c G A nL Q cells slots sh q μ ν lv st pc := by
  intro H locs ls hP hS hl
  subst hst
  have hF : gFr G sh q μ ν sh q μ ν μ ν μ ν := gFr_same
  have hp0 := g_preS C hq hF hP av
  have hp : PreS s H (gPx G sh q μ ν H.size av) av := ⟨g_blindx, fun U hU hW => ⟨hp0.2 U hU hW, gX_to hW hU hS (g_frA C hq hF hS) hX⟩⟩
  exact vx_calli (A1 := gA q sh.length H.size) (AX := gA q sh.length H.size) (post := fun _ (_ : Unit) => False) (px := fun (_ : Unit) => True) (B := fun _ _ => True) (BX := fun E' _ t => E' = E ∧ va_P G.1 vwCl (wd G q μ' ν' 0 sh) t.heap) (vx_runS (As := av) (rest := st') ⟨C.1, C.2.1, C.2.2.2.1, C.2.2.2.2.1, C.2.2.2.2.2.1⟩ (hM H.size) cw hp rfl hn hl.1 rfl (lv_room hsum) hdg ⟨hc, hs⟩) hS (fun a _ h => g_frA C hq hF hS a h) (g_frA C hq hF hS) (fun a _ h => g_frA C hq hF hS a h) (fun E' ce q9 u t H1 locs1 ht hvm _ hB hz hk hS1 hce hcv hcl9 => by
    obtain ⟨rfl, hB⟩ := hB
    rw [ht] at hB
    refine vx_catch (name := E') C.2.2.2.2.1 pre x suf hsplit (fun z hz9 => Or.inr ?_) hx h0 (C.2.2.2.2.2.1 _ hlink) (va_tabs (g_bad_on _ hcast) rfl (hX.2.2.2.2 _ hcast)) hce hcv hcl9 ?_
    · obtain ⟨a1, nm, a2, a3⟩ := hpass z hz9
      exact ⟨a1, nm, C.2.2.2.2.2.1 _ a2, hX.2.2.2.1 _ a3⟩
    · rw [hh9]
      exact K q9 H1 locs1 ls hB hS1 hl) (fun r' u t H1 locs1 ht hvm hw hB hz hk hS1 => False.elim hw)
/-- the state that a law's method wants at its entry, within a larger world -/
theorem g_preZ (C : xC p s m args meth c G A nL cc own Ts) (hsh : sh = shc ++ rest) (hq : gD A q sh.length) (hX : gX A s) {H : Heap} {locs : List Loc} (hS : va_S A s.heap H locs) (hP : va_P G.1 vwCl (wd G q μ ν 0 sh) H) (av : List Value) : PreS s H (gPx G shc q μ ν H.size av) av := by
  subst hsh
  exact ⟨g_blindx, fun U hU hW => ⟨⟨rfl, by rw [hU], by rw [hU]; exact wd_pre hP, va_K.moved hW.alike C.2.2.2.2.2.2.1, fun i j hi hj h => hq.1 i j (by rw [List.length_append]; omega) (by rw [List.length_append]; omega) h⟩, gX_to hW hU hS (g_frW C hq hS) hX⟩⟩
theorem x_callZ (C : xC p s m args meth c G A nL cc own Ts) (hsh : sh = shc ++ rest) (hq : gD A q sh.length) (hwf : g_wf shc = true) (hrest : rest.all g_lng = true) (hX : gX A s) {n4 mc ms cells' slots' : Nat} (h4 : n4 ≤ shc.length) {r : Int32} {av : List Value} (hM : gMz l y wsy rm G shc q n4 μ ν av μ' ν r mc ms) (cw : CallB R s args own index y bytes maxL ret wsy rm mc ms n ∧ (Cond.static y).before args s = true) (hn : av.length = n) (hst : st = av.reverse ++ st') (hsum : (st'.map fun v => v.category).sum ≤ 8) (hdg : decode cc pc = .ok (.invokestatic index, 3)) (e1 : cells + mc = cells') (e2 : slots + ms = slots') (hc : cells' ≤ R.cells) (hs : slots' ≤ R.slots) (K : ∀ q', (∀ k, k < n4 ∨ shc.length ≤ k → q' k = q k) → gD A q' sh.length → xJ p l e R s m args below meth c G A nL Q cells' slots' sh q' μ' ν lv (.int r :: st') (pc + 3)) : xJ p l e R s m args below meth c G A nL Q cells slots sh q μ ν lv st pc := by
  subst e1; subst e2
  intro H locs ls hP hS hl
  subst hst
  have hpre := g_preZ C hsh hq hX hS hP av
  subst hsh
  exact va_calli (va_runS (As := av) (rest := st') ⟨C.1, C.2.1, C.2.2.2.1, C.2.2.2.2.1, C.2.2.2.2.2.1⟩ (hM H.size) cw hpre rfl hn hl.1 rfl (lv_room hsum) hdg ⟨hc, hs⟩) hS (fun a _ h => g_frW C hq hS a h) (g_frW C hq hS) (fun r' q' t H1 locs1 ht hvm hw hB hz hk hS1 => by
    have hw1 : r' = r := hw.1
    subst hw1
    have hB : va_P G.1 vwCl (wd G q' μ' ν 0 shc) t.heap := hB
    rw [ht] at hB
    refine K _ (fun k hk9 => ?_) (g_dW C hq hP hS hw.2.2) H1 locs1 ls (wd_back hwf hrest hq.1 hP hB hk) hS1 hl
    rcases hk9 with h | h
    · rw [if_pos (Nat.lt_of_lt_of_le h h4)]; exact hw.2.1 k h
    · rw [if_neg (Nat.not_lt.mpr h)])
theorem x_callZw (C : xC p s m args meth c G A nL cc own Ts) (hsh : sh = shc ++ rest) (hq : gD A q sh.length) (hwf : g_wf shc = true) (hrest : rest.all g_lng = true) (hX : gX A s) {n4 mc ms cells' slots' : Nat} (h4 : n4 ≤ shc.length) {r : Int32} {av : List Value} (hM : gMz l y wsy rm G shc q n4 μ ν av μ' ν r mc ms) (cw : vx_CSW R s args own index y bytes maxL ret hh wsy rm mc ms n) (hn : av.length = n) (hst : st = av.reverse ++ st') (hsum : (st'.map fun v => v.category).sum ≤ 8) (hdg : decode cc pc = .ok (.invokestatic index, 3)) (e1 : cells + mc = cells') (e2 : slots + ms = slots') (hc : cells' ≤ R.cells) (hs : slots' ≤ R.slots) (K : ∀ q', (∀ k, k < n4 ∨ shc.length ≤ k → q' k = q k) → gD A q' sh.length → xJ p l e R s m args below meth c G A nL Q cells' slots' sh q' μ' ν lv (.int r :: st') (pc + 3)) : xJ p l e R s m args below meth c G A nL Q cells slots sh q μ ν lv st pc := by
  subst e1; subst e2
  intro H locs ls hP hS hl
  subst hst
  have hpre := g_preZ C hsh hq hX hS hP av
  subst hsh
  exact va_calli (vx_runSW (As := av) (rest := st') ⟨C.1, C.2.1, C.2.2.2.1, C.2.2.2.2.1, C.2.2.2.2.2.1⟩ (hM H.size) cw hpre rfl hn hl.1 rfl (lv_room hsum) hdg ⟨hc, hs⟩) hS (fun a _ h => g_frW C hq hS a h) (g_frW C hq hS) (fun r' q' t H1 locs1 ht hvm hw hB hz hk hS1 => by
    have hw1 : r' = r := hw.1
    subst hw1
    have hB : va_P G.1 vwCl (wd G q' μ' ν 0 shc) t.heap := hB
    rw [ht] at hB
    refine K _ (fun k hk9 => ?_) (g_dW C hq hP hS hw.2.2) H1 locs1 ls (wd_back hwf hrest hq.1 hP hB hk) hS1 hl
    rcases hk9 with h | h
    · rw [if_pos (Nat.lt_of_lt_of_le h h4)]; exact hw.2.1 k h
    · rw [if_neg (Nat.not_lt.mpr h)])
theorem x_callZ0 (C : xC p s m args meth c G A nL cc own Ts) (hsh : sh = shc ++ rest) (hq : gD A q sh.length) (hwf : g_wf shc = true) (hrest : rest.all g_lng = true) (hX : gX A s) {mc ms cells' slots' : Nat} {r : Int32} {av : List Value} (hM : gMs l y wsy rm G shc q μ ν av μ' ν r mc ms) (cw : CallB R s args own index y bytes maxL ret wsy rm mc ms n ∧ (Cond.static y).before args s = true) (hn : av.length = n) (hst : st = av.reverse ++ st') (hsum : (st'.map fun v => v.category).sum ≤ 8) (hdg : decode cc pc = .ok (.invokestatic index, 3)) (e1 : cells + mc = cells') (e2 : slots + ms = slots') (hc : cells' ≤ R.cells) (hs : slots' ≤ R.slots) (K : xJ p l e R s m args below meth c G A nL Q cells' slots' sh q μ' ν lv (.int r :: st') (pc + 3)) : xJ p l e R s m args below meth c G A nL Q cells slots sh q μ ν lv st pc := by
  subst e1; subst e2
  intro H locs ls hP hS hl
  subst hst
  have hpre := g_preZ C hsh hq hX hS hP av
  subst hsh
  exact va_calli (va_runS (As := av) (rest := st') ⟨C.1, C.2.1, C.2.2.2.1, C.2.2.2.2.1, C.2.2.2.2.2.1⟩ (hM H.size) cw hpre rfl hn hl.1 rfl (lv_room hsum) hdg ⟨hc, hs⟩) hS (fun a _ h => g_frW C hq hS a h) (g_frW C hq hS) (fun r' u t H1 locs1 ht hvm hw hB hz hk hS1 => by
    have hw1 : r' = r := hw
    subst hw1
    have hB : va_P G.1 vwCl (wd G q μ' ν 0 shc) t.heap := hB
    rw [ht] at hB
    have e : (fun k => if k < shc.length then q k else q k) = q := by funext k; split <;> rfl
    have h9 := wd_back hwf hrest hq.1 hP hB hk
    rw [e] at h9
    exact K H1 locs1 ls h9 hS1 hl)
theorem x_callZw0 (C : xC p s m args meth c G A nL cc own Ts) (hsh : sh = shc ++ rest) (hq : gD A q sh.length) (hwf : g_wf shc = true) (hrest : rest.all g_lng = true) (hX : gX A s) {mc ms cells' slots' : Nat} {r : Int32} {av : List Value} (hM : gMs l y wsy rm G shc q μ ν av μ' ν r mc ms) (cw : vx_CSW R s args own index y bytes maxL ret hh wsy rm mc ms n) (hn : av.length = n) (hst : st = av.reverse ++ st') (hsum : (st'.map fun v => v.category).sum ≤ 8) (hdg : decode cc pc = .ok (.invokestatic index, 3)) (e1 : cells + mc = cells') (e2 : slots + ms = slots') (hc : cells' ≤ R.cells) (hs : slots' ≤ R.slots) (K : xJ p l e R s m args below meth c G A nL Q cells' slots' sh q μ' ν lv (.int r :: st') (pc + 3)) : xJ p l e R s m args below meth c G A nL Q cells slots sh q μ ν lv st pc := by
  subst e1; subst e2
  intro H locs ls hP hS hl
  subst hst
  have hpre := g_preZ C hsh hq hX hS hP av
  subst hsh
  exact va_calli (vx_runSW (As := av) (rest := st') ⟨C.1, C.2.1, C.2.2.2.1, C.2.2.2.2.1, C.2.2.2.2.2.1⟩ (hM H.size) cw hpre rfl hn hl.1 rfl (lv_room hsum) hdg ⟨hc, hs⟩) hS (fun a _ h => g_frW C hq hS a h) (g_frW C hq hS) (fun r' u t H1 locs1 ht hvm hw hB hz hk hS1 => by
    have hw1 : r' = r := hw
    subst hw1
    have hB : va_P G.1 vwCl (wd G q μ' ν 0 shc) t.heap := hB
    rw [ht] at hB
    have e : (fun k => if k < shc.length then q k else q k) = q := by funext k; split <;> rfl
    have h9 := wd_back hwf hrest hq.1 hP hB hk
    rw [e] at h9
    exact K H1 locs1 ls h9 hS1 hl)
/-- a call on the object, in front of long cells: it may move its cells -/
theorem x_callZp (C : xC p s m args meth c G A nL cc own Ts) (hsh : sh = shc ++ rest) (hq : gD A q sh.length) (hwf : g_wf shc = true) (hrest : rest.all g_lng = true) {n4 : Nat} (h4 : n4 ≤ shc.length) {r : Int32} {as : List Value} {ci : Nat} {fs : List gF} {CN : String} {T : u_T} {N : Nat} (hM : gMpi l y wsy rm G shc q n4 μ ν (.ref (q 0) :: as) μ' ν r) (cw : CallW R s args own CN index y bytes maxL ret wsy rm 0 0 n) (hsc : shc[0]? = some (.inr (.inl (ci, fs)))) (hcl : vwCl[ci]? = some (CN, T, N)) (hn : as.length = n) (hst : st = as.reverse ++ .ref (q 0) :: st') (hsum : (st'.map fun v => v.category).sum ≤ 8) (hdg : decode cc pc = .ok (.invokevirtual index, 3)) (hc : cells ≤ R.cells) (hs : slots ≤ R.slots) (K : ∀ q', (∀ k, k < n4 ∨ shc.length ≤ k → q' k = q k) → gD A q' sh.length → xJ p l e R s m args below meth c G A nL Q cells slots sh q' μ' ν lv (.int r :: st') (pc + 3)) : xJ p l e R s m args below meth c G A nL Q cells slots sh q μ ν lv st pc := by
  subst hsh
  exact x_callWp C hq hwf hrest h4 hM cw hsc hcl hn hst hsum hdg hc hs K
/-- a static method that begins with no cells -/
theorem x_callY (C : xC p s m args meth c G A nL cc own Ts) (hX : gX A s) (hE : gE s) {mc ms cells' slots' : Nat} {r : Int32} {av : List Value} (hM : ∀ q0 μ0 ν0, gMy l y wsy rm G q0 μ0 ν0 av r mc ms) (cw : CallB R s args own index y bytes maxL ret wsy rm mc ms n ∧ (Cond.static y).before args s = true) (hn : av.length = n) (hst : st = av.reverse ++ st') (hsum : (st'.map fun v => v.category).sum ≤ 8) (hdg : decode cc pc = .ok (.invokestatic index, 3)) (e1 : cells + mc = cells') (e2 : slots + ms = slots') (hc : cells' ≤ R.cells) (hs : slots' ≤ R.slots) (K : xJ p l e R s m args below meth c G A nL Q cells' slots' [] q μ ν lv (.int r :: st') (pc + 3)) : xJ p l e R s m args below meth c G A nL Q cells slots [] q μ ν lv st pc := by
  subst e1; subst e2
  intro H locs ls hP hS hl
  subst hst
  have hfr : ∀ a, gA q ([] : List gC).length H.size a → A a := by
    rintro a (⟨k, hk, -⟩ | h)
    · exact absurd hk (Nat.not_lt_zero _)
    · exact C.2.2.2.2.2.2.2 a (Nat.le_trans hS.1 h)
  have hpre : PreS s H (gPy G q μ ν H.size av) av := ⟨g_blindy, fun U hU hW => ⟨⟨⟨rfl, by rw [hU], by rw [hU]; exact hP, va_K.moved hW.alike C.2.2.2.2.2.2.1, fun i j hi _ _ => absurd hi (Nat.not_lt_zero _)⟩, gX_to hW hU hS hfr hX⟩, gE_to hW hE⟩⟩
  exact va_calli (va_runS (As := av) (rest := st') ⟨C.1, C.2.1, C.2.2.2.1, C.2.2.2.2.1, C.2.2.2.2.2.1⟩ (hM q μ ν H.size) cw hpre rfl hn hl.1 rfl (lv_room hsum) hdg ⟨hc, hs⟩) hS (fun a _ h => hfr a h) hfr (fun r' u t H1 locs1 ht hvm hw hB hz hk hS1 => by
    have hw : r' = r := hw
    subst hw
    exact K H1 locs1 ls (fun k z hz => absurd hz (by simp [wd])) hS1 hl)
end XZ
