/-! throwing and catching -/
def g_IO : String := "java/lang/IndexOutOfBoundsException"
def g_IA : String := "java/lang/IllegalArgumentException"
def g_IS : String := "java/lang/IllegalStateException"
abbrev g_ns : List String := ["java/lang/RuntimeException", "java/lang/Exception"]
def g_strs : List (Nat × String) := [(47, "no such page"), (54, "hint out of range"), (64, "many out of range"), (80, "the page is not written"), (86, "no such block"), (91, "the block is not closed"), (100, "free out of range"), (105, "no such setting"), (110, "value out of range"), (115, "code out of range"), (117, "the buffer is full"), (126, "the buffer is not complete"), (143, "there is no saved state"), (145, "what out of range"), (154, "no such slot"), (162, "no such stream"), (177, "rounds out of range")]
def g_bad : List Cond := [.castable "java/lang/IndexOutOfBoundsException" "java/lang/IndexOutOfBoundsException", .castable "java/lang/IllegalArgumentException" "java/lang/IllegalArgumentException", .castable "java/lang/IllegalStateException" "java/lang/IllegalStateException", .declares (Bundle.initS "java/lang/RuntimeException"), .declares (Bundle.initS "java/lang/Exception"), .declares (Bundle.initS "java/lang/Throwable")]
def g_ncs : List (String × String) := [("java/lang/IllegalArgumentException", "java/lang/IndexOutOfBoundsException"), ("java/lang/IllegalStateException", "java/lang/IndexOutOfBoundsException"), ("java/lang/IllegalStateException", "java/lang/IllegalArgumentException")]
def gX (A : Nat → Prop) (U : State) : Prop := vx_Zq Bundle.tN "UNASSIGNED_STACK" Bundle.steD A U U.heap ∧ vx_Zq Bundle.tN "SUPPRESSED_SENTINEL" Bundle.listD A U U.heap ∧ (∀ x ∈ g_strs, ∃ sa, vk_R RX2 x.1 x.2 sa U) ∧ (∀ x ∈ g_ncs, va_Nc x.1 x.2 U) ∧ ∀ w ∈ g_bad, w.before #[] U = true
theorem g_bad_on : ∀ w ∈ g_bad, w.onTables = true := by decide +kernel
theorem g_cast_moved {C T : String} {a a' : Array Value} {u U : State} (hvm : u.vm.Alike U.vm) (h : (Cond.castable C T).before a u = true) : (Cond.castable C T).before a' U = true := by
  obtain ⟨c, t, h1, h2, h3⟩ := Cond.castable_spec h
  simp only [Cond.before, Cond.holds, Cond.value, hvm.findClass, h1, h2, hvm.assignable, h3]
  rfl
theorem g_bad_moved {u U : State} (hW : u.WarmedH U.vm) {w : Cond} (hw : w ∈ g_bad) (h : w.before #[] u = true) : w.before #[] U = true := by
  have hd : ∀ x : MethodName, (Cond.declares x).before #[] u = true → (Cond.declares x).before #[] U = true := fun x hx => by
    have h1 : (Cond.declares x).before #[] (u.setVm U.vm) = true := Cond.before_shiftedFace (State.Shifted.of_warmed hW) _ rfl hx
    exact va_tabs (u := u.setVm U.vm) rfl rfl h1
  simp only [g_bad, List.mem_cons, List.not_mem_nil, or_false] at hw
  rcases hw with rfl | rfl | rfl | rfl | rfl | rfl
  · exact g_cast_moved hW.alike h
  · exact g_cast_moved hW.alike h
  · exact g_cast_moved hW.alike h
  · exact hd _ h
  · exact hd _ h
  · exact hd _ h
theorem gX_to {A B : Nat → Prop} {s U : State} {H : Heap} {locs : List Loc} (hW : s.WarmedH U.vm) (hU : U.heap = H) (hS : va_S A s.heap H locs) (hAB : ∀ a, B a → A a) (h : gX A s) : gX B U := by
  obtain ⟨h1, h2, h3, h4, h5⟩ := h
  refine ⟨?_, ?_, fun x hx => ?_, fun x hx => va_Nc.moved hW.alike (h4 x hx), fun w hw => g_bad_moved hW hw (h5 w hw)⟩
  · rw [hU]; exact vx_Zq.moved hW.alike ((h1.kept hS.2.1).narrow hAB)
  · rw [hU]; exact vx_Zq.moved hW.alike ((h2.kept hS.2.1).narrow hAB)
  · obtain ⟨sa, hsa⟩ := h3 x hx
    exact ⟨sa, vk_R.warm hW hsa⟩
theorem gX_calling {A : Nat → Prop} {U : State} {g : JFrame} {mk : MethodId} {a : Array Value} (h : gX A U) : gX A (U.calling g mk a) := by
  obtain ⟨h1, h2, h3, h4, h5⟩ := h
  refine ⟨vx_Zq.moved (u := U) (U := U.calling g mk a) (Vm.Alike.refl U.vm) h1, vx_Zq.moved (u := U) (U := U.calling g mk a) (Vm.Alike.refl U.vm) h2, fun x hx => ?_, fun x hx => va_Nc.moved (u := U) (U := U.calling g mk a) (Vm.Alike.refl U.vm) (h4 x hx), fun w hw => va_tabs (u := U) (U := U.calling g mk a) (g_bad_on w hw) rfl (h5 w hw)⟩
  obtain ⟨sa, hsa⟩ := h3 x hx
  exact ⟨sa, vk_R.same (u := U) (U := U.calling g mk a) rfl hsa⟩
def gPx (G : gG) (sh : List gC) (q : Nat → Nat) (μ : gM) (ν : gN) (sz : Nat) (av : List Value) : Array Value → State → Prop := fun v U => gPc G sh q μ ν sz av v U ∧ gX (gA q sh.length sz) U
def gQx (q : Nat → Nat) (n sz : Nat) : Array Value → State → Outcome → State → Prop := va_Qi (fun _ (_ : Unit) => False) (fun _ _ => True) (gA q n sz)
def gXC (G : gG) (sh : List gC) (q : Nat → Nat) (E : String) (μ' : gM) (ν' : gN) (sz : Nat) : String → State → State → Prop := vx_X (fun (_ : Unit) => True) (fun E' _ t => E' = E ∧ va_P G.1 vwCl (wd G q μ' ν' 0 sh) t.heap) (gA q sh.length sz)
def gMx (l : Launch) (y : MethodName) (ws : List Cond) (rm : Room) (G : gG) (sh : List gC) (q : Nat → Nat) (μ : gM) (ν : gN) (av : List Value) (E : String) (μ' : gM) (ν' : gN) : Prop := ∀ sz : Nat, vx_Met l y ws rm (gPx G sh q μ ν sz av) (gQx q sh.length sz) (gXC G sh q E μ' ν' sz) 1 6 (gA q sh.length sz)
theorem g_blindx {G : gG} {sh : List gC} {q : Nat → Nat} {μ : gM} {ν : gN} {sz : Nat} {av : List Value} : FrameBlind (gPx G sh q μ ν sz av) := fun a U g mk h => ⟨g_blind a U g mk h.1, gX_calling h.2⟩
theorem g_metx {l : Launch} {y : MethodName} {ws ws' : List Cond} {rm : Room} {G : gG} {sh : List gC} {q : Nat → Nat} {μ μ' : gM} {ν ν' : gN} {av : List Value} {sz : Nat} {E : String} {cc : ByteArray} {maxL : Nat} {ret : Option FieldType} {own : String} (hy : plainName y.cls = true) (ho : y.cls = own) (hw : ws = Cond.code y cc maxL ret :: ws') (hlen : (lg_sl av).length ≤ maxL)
    (body : ∀ (p : Program) (e : Env) (s : State) (m : MethodId) (below : List Frame) (meth : Method) (c : Code), xC p s m av.toArray meth c G (gA q sh.length s.heap.size) maxL cc own ws → gD (gA q sh.length s.heap.size) q sh.length → gX (gA q sh.length s.heap.size) s → (∀ x ∈ c.exceptionTable.toList, False) → xJ p l e rm s m av.toArray below meth c G (gA q sh.length s.heap.size) maxL (vx_MQ below (gQx q sh.length s.heap.size) (gXC G sh q E μ' ν' s.heap.size) av.toArray s 1 6 (gA q sh.length s.heap.size)) 0 0 sh q μ ν (lv_args 0 av) [] 0) :
    vx_Met l y ws rm (gPx G sh q μ ν sz av) (gQx q sh.length sz) (gXC G sh q E μ' ν' sz) 1 6 (gA q sh.length sz) := by
  refine vx_ofW (cc := cc) (maxL := maxL) (ret := ret) hy hw ?_
  intro p e s m args below meth c s₁ B hml htab hv
  obtain ⟨⟨rfl, rfl, hP, hK, hD⟩, hX⟩ := hv
  have hts := atoms_spec (ws := ws) B.pre
  have hA : ∀ a : Nat, s.heap.size ≤ a → gA q sh.length s.heap.size a := fun a h => Or.inr h
  have C : xC p s m av.toArray meth c G (gA q sh.length s.heap.size) maxL cc own ws := ⟨B.exec, B.bytes, B.notSynchronized, hml, ho ▸ findClass_of_methodNamed B.named, hts, hK, hA⟩
  have hq : gD (gA q sh.length s.heap.size) q sh.length := ⟨hD, fun k hk => Or.inl ⟨k, hk, rfl⟩⟩
  have hl := lv_entry av (n := maxL) hlen
  rw [lg_entry_eq]
  exact body p e s m below meth c C hq hX htab s.heap [] _ hP va_S.rf hl
section XT
variable {p : Program} {l : Launch} {e : Env} {R : Room} {s : State} {m : MethodId} {args : Array Value} {below : List Frame} {meth : Method} {c : Code} {G : gG} {A : Nat → Prop} {nL : Nat} {Q : State → Prop} {cells slots : Nat} {sh shc : List gC} {q qc : Nat → Nat} {μ μc μr μ' : gM} {ν νc νr ν' : gN} {lv lv' : List (Nat × Value)} {st st' : List Value} {pc : Nat}
variable {cc : ByteArray} {own : String} {Ts : List Cond}
theorem x_throw (C : xC p s m args meth c G (gA q sh.length s.heap.size) nL cc RX2 Ts) (hl : l.stackTraces = false) (hX : gX (gA q sh.length s.heap.size) s) (htab : ∀ x ∈ c.exceptionTable.toList, False) {cls text : String} {ik is ic : Nat} (hcls : Bundle.fit cls = true) (hk : Cond.classLink RX2 ik cls ∈ Ts) (hini : Cond.initialized cls ∈ Ts) (hstr : (is, text) ∈ g_strs) (hgood : ∀ w ∈ (vx_atS RX2 ic cls g_ns).filter goodWord, w ∈ Ts) (hbad : ∀ w ∈ (vx_atS RX2 ic cls g_ns).filter (fun w => !goodWord w), w ∈ g_bad) (hot : ∀ w ∈ Cond.classLink RX2 ik cls :: Cond.initialized cls :: vx_atS RX2 ic cls g_ns, vx_ot w = true)
    (d0 : decode cc pc = .ok (.new ik, 3)) (d3 : decode cc (pc + 3) = .ok (.dup, 1)) (d4 : decode cc (pc + 4) = .ok (.ldc is, 2)) (d6 : decode cc (pc + 6) = .ok (.invokespecial ic, 3)) (d9 : decode cc (pc + 9) = .ok (.athrow, 1)) (hRf : 5 < R.frames) (hRl : 82 ≤ R.locals) (hRc : 1 ≤ R.cells) (hRs : 6 ≤ R.slots) {E : String} (hE : cls = E) (h2 : μ = μ') (h3 : ν = ν') :
    xJ p l e R s m args below meth c G (gA q sh.length s.heap.size) nL (vx_MQ below (gQx q sh.length s.heap.size) (gXC G sh q E μ' ν' s.heap.size) args s 1 6 (gA q sh.length s.heap.size)) 0 0 sh q μ ν lv [] pc := by
  intro H locs ls hP hS hl9
  subst hE; subst h2; subst h3
  obtain ⟨sa, hsa⟩ := hX.2.2.1 _ hstr
  refine vx_throwS (cls := cls) (text := text) (names := g_ns) (ik := ik) (is := is) (ic := ic) (sa := sa) (A := gA q sh.length s.heap.size) C.1 C.2.1 hl C.2.2.2.2.1 hcls (by decide +kernel) (C.2.2.2.2.2.1 _ hk) (C.2.2.2.2.2.1 _ hini) hsa (vx_hat (B := g_bad) (fun w hw => C.2.2.2.2.2.1 w (hgood w hw)) hbad (fun w hw => va_tabs (g_bad_on w hw) rfl (hX.2.2.2.2 w hw))) hot hX.1 hX.2.1 hS (hl9.1.trans C.2.2.2.1.symm) d0 d3 d4 d6 d9 (fun x hx => (htab x hx).elim) hRf hRl (by omega) (by omega) C.2.2.1 (fun t hvm hsz hsame => ?_) hS.2.2 (Nat.le_refl _) (Nat.le_refl _)
  refine ⟨(), trivial, ⟨rfl, fun k z hz => (hP k z hz).kept (hsame _ (hP k z hz).lt)⟩, ?_⟩
  exact ⟨Nat.le_trans hS.1 hsz, fun a ha hna => (hsame a (Nat.lt_of_lt_of_le ha hS.1)).trans (hS.2.1 a ha hna)⟩
end XT
