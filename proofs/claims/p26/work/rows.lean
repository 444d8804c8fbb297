section
-- ===== PART A: goes FIRST, ahead of the names: the tables' words, and 'selects' of the private methods out of them =====
/-- a private method of a class that the tables say can be made, by its rows of tables_1 -/
def lw_okq (q : MethodName × Nat) : Prop := (q.1.cls ≠ "java/lang/invoke/MethodHandle" ∧ q.1.cls ≠ "java/lang/invoke/VarHandle") ∧ Cond.instantiable q.1.cls q.2 ∈ tables_1 ∧ Cond.privateMethod q.1 ∈ tables_1 ∧ Cond.instanceMethod q.1 ∈ tables_1
theorem lw_p0 : lw_okq (⟨"java/lang/Throwable", "fillInStackTrace", "(I)Ljava/lang/Throwable;"⟩, 6) := ⟨⟨by decide +kernel, by decide +kernel⟩, List.mem_of_getElem? (i := 178) (by decide +kernel), List.mem_of_getElem? (i := 176) (by decide +kernel), List.mem_of_getElem? (i := 177) (by decide +kernel)⟩
theorem lw_p1 : lw_okq (⟨"HintedPages", "saveState", "()V"⟩, 7) := ⟨⟨by decide +kernel, by decide +kernel⟩, List.mem_of_getElem? (i := 15) (by decide +kernel), List.mem_of_getElem? (i := 224) (by decide +kernel), List.mem_of_getElem? (i := 225) (by decide +kernel)⟩
theorem lw_p2 : lw_okq (⟨"HintedPages", "dropOldest", "()V"⟩, 7) := ⟨⟨by decide +kernel, by decide +kernel⟩, List.mem_of_getElem? (i := 15) (by decide +kernel), List.mem_of_getElem? (i := 228) (by decide +kernel), List.mem_of_getElem? (i := 229) (by decide +kernel)⟩
theorem lw_p3 : lw_okq (⟨"HintedPages$Store", "rankOf", "(I)I"⟩, 17) := ⟨⟨by decide +kernel, by decide +kernel⟩, List.mem_of_getElem? (i := 23) (by decide +kernel), List.mem_of_getElem? (i := 266) (by decide +kernel), List.mem_of_getElem? (i := 267) (by decide +kernel)⟩
theorem lw_p4 : lw_okq (⟨"HintedPages$Store", "openBlock", "(I)I"⟩, 17) := ⟨⟨by decide +kernel, by decide +kernel⟩, List.mem_of_getElem? (i := 23) (by decide +kernel), List.mem_of_getElem? (i := 278) (by decide +kernel), List.mem_of_getElem? (i := 279) (by decide +kernel)⟩
theorem lw_p5 : lw_okq (⟨"HintedPages$Store", "program", "(III)V"⟩, 17) := ⟨⟨by decide +kernel, by decide +kernel⟩, List.mem_of_getElem? (i := 23) (by decide +kernel), List.mem_of_getElem? (i := 282) (by decide +kernel), List.mem_of_getElem? (i := 283) (by decide +kernel)⟩
theorem lw_p6 : lw_okq (⟨"HintedPages$Store", "erase", "(I)V"⟩, 17) := ⟨⟨by decide +kernel, by decide +kernel⟩, List.mem_of_getElem? (i := 23) (by decide +kernel), List.mem_of_getElem? (i := 286) (by decide +kernel), List.mem_of_getElem? (i := 287) (by decide +kernel)⟩
theorem lw_p7 : lw_okq (⟨"HintedPages$Store", "openBlocks", "()I"⟩, 17) := ⟨⟨by decide +kernel, by decide +kernel⟩, List.mem_of_getElem? (i := 23) (by decide +kernel), List.mem_of_getElem? (i := 327) (by decide +kernel), List.mem_of_getElem? (i := 328) (by decide +kernel)⟩
theorem lw_p8 : lw_okq (⟨"HintedPages$Store", "spreadOfErasures", "()I"⟩, 17) := ⟨⟨by decide +kernel, by decide +kernel⟩, List.mem_of_getElem? (i := 23) (by decide +kernel), List.mem_of_getElem? (i := 339) (by decide +kernel), List.mem_of_getElem? (i := 340) (by decide +kernel)⟩
theorem lw_p9 : lw_okq (⟨"HintedPages", "withPages", "(J)J"⟩, 7) := ⟨⟨by decide +kernel, by decide +kernel⟩, List.mem_of_getElem? (i := 15) (by decide +kernel), List.mem_of_getElem? (i := 356) (by decide +kernel), List.mem_of_getElem? (i := 357) (by decide +kernel)⟩
theorem lw_p10 : lw_okq (⟨"HintedPages", "withBlocks", "(J)J"⟩, 7) := ⟨⟨by decide +kernel, by decide +kernel⟩, List.mem_of_getElem? (i := 15) (by decide +kernel), List.mem_of_getElem? (i := 372) (by decide +kernel), List.mem_of_getElem? (i := 373) (by decide +kernel)⟩
theorem lw_p11 : lw_okq (⟨"HintedPages$Store", "closedAheadOf", "(I)I"⟩, 17) := ⟨⟨by decide +kernel, by decide +kernel⟩, List.mem_of_getElem? (i := 23) (by decide +kernel), List.mem_of_getElem? (i := 384) (by decide +kernel), List.mem_of_getElem? (i := 385) (by decide +kernel)⟩
theorem lw_p12 : lw_okq (⟨"HintedPages$Store", "unlikeHintsOf", "(I)I"⟩, 17) := ⟨⟨by decide +kernel, by decide +kernel⟩, List.mem_of_getElem? (i := 23) (by decide +kernel), List.mem_of_getElem? (i := 388) (by decide +kernel), List.mem_of_getElem? (i := 389) (by decide +kernel)⟩
theorem lw_p13 : lw_okq (⟨"HintedPages", "withStreams", "(J)J"⟩, 7) := ⟨⟨by decide +kernel, by decide +kernel⟩, List.mem_of_getElem? (i := 15) (by decide +kernel), List.mem_of_getElem? (i := 398) (by decide +kernel), List.mem_of_getElem? (i := 399) (by decide +kernel)⟩
theorem lw_p14 : lw_okq (⟨"HintedPages$Store", "pagesWithHint", "(I)I"⟩, 17) := ⟨⟨by decide +kernel, by decide +kernel⟩, List.mem_of_getElem? (i := 23) (by decide +kernel), List.mem_of_getElem? (i := 406) (by decide +kernel), List.mem_of_getElem? (i := 407) (by decide +kernel)⟩
theorem lw_p15 : lw_okq (⟨"HintedPages$Store", "percentOf", "(I)I"⟩, 17) := ⟨⟨by decide +kernel, by decide +kernel⟩, List.mem_of_getElem? (i := 23) (by decide +kernel), List.mem_of_getElem? (i := 410) (by decide +kernel), List.mem_of_getElem? (i := 411) (by decide +kernel)⟩
def lw_privs_1 : List (MethodName × Nat) := [(⟨"java/lang/Throwable", "fillInStackTrace", "(I)Ljava/lang/Throwable;"⟩, 6), (⟨"HintedPages", "saveState", "()V"⟩, 7), (⟨"HintedPages", "dropOldest", "()V"⟩, 7), (⟨"HintedPages$Store", "rankOf", "(I)I"⟩, 17), (⟨"HintedPages$Store", "openBlock", "(I)I"⟩, 17), (⟨"HintedPages$Store", "program", "(III)V"⟩, 17), (⟨"HintedPages$Store", "erase", "(I)V"⟩, 17), (⟨"HintedPages$Store", "openBlocks", "()I"⟩, 17), (⟨"HintedPages$Store", "spreadOfErasures", "()I"⟩, 17), (⟨"HintedPages", "withPages", "(J)J"⟩, 7), (⟨"HintedPages", "withBlocks", "(J)J"⟩, 7), (⟨"HintedPages$Store", "closedAheadOf", "(I)I"⟩, 17), (⟨"HintedPages$Store", "unlikeHintsOf", "(I)I"⟩, 17), (⟨"HintedPages", "withStreams", "(J)J"⟩, 7), (⟨"HintedPages$Store", "pagesWithHint", "(I)I"⟩, 17), (⟨"HintedPages$Store", "percentOf", "(I)I"⟩, 17)]
theorem lw_r1 : ∀ q ∈ lw_privs_1, lw_okq q := List.forall_mem_cons.mpr ⟨lw_p0, List.forall_mem_cons.mpr ⟨lw_p1, List.forall_mem_cons.mpr ⟨lw_p2, List.forall_mem_cons.mpr ⟨lw_p3, List.forall_mem_cons.mpr ⟨lw_p4, List.forall_mem_cons.mpr ⟨lw_p5, List.forall_mem_cons.mpr ⟨lw_p6, List.forall_mem_cons.mpr ⟨lw_p7, List.forall_mem_cons.mpr ⟨lw_p8, List.forall_mem_cons.mpr ⟨lw_p9, List.forall_mem_cons.mpr ⟨lw_p10, List.forall_mem_cons.mpr ⟨lw_p11, List.forall_mem_cons.mpr ⟨lw_p12, List.forall_mem_cons.mpr ⟨lw_p13, List.forall_mem_cons.mpr ⟨lw_p14, List.forall_mem_cons.mpr ⟨lw_p15, fun _ h => absurd h List.not_mem_nil⟩⟩⟩⟩⟩⟩⟩⟩⟩⟩⟩⟩⟩⟩⟩⟩
theorem lw_p16 : lw_okq (⟨"HintedPages", "withForecasts", "(J)J"⟩, 7) := ⟨⟨by decide +kernel, by decide +kernel⟩, List.mem_of_getElem? (i := 15) (by decide +kernel), List.mem_of_getElem? (i := 414) (by decide +kernel), List.mem_of_getElem? (i := 415) (by decide +kernel)⟩
theorem lw_p17 : lw_okq (⟨"HintedPages", "tryWriting", "(II)V"⟩, 7) := ⟨⟨by decide +kernel, by decide +kernel⟩, List.mem_of_getElem? (i := 15) (by decide +kernel), List.mem_of_getElem? (i := 418) (by decide +kernel), List.mem_of_getElem? (i := 419) (by decide +kernel)⟩
theorem lw_p18 : lw_okq (⟨"HintedPages", "forecast", "(II)I"⟩, 7) := ⟨⟨by decide +kernel, by decide +kernel⟩, List.mem_of_getElem? (i := 15) (by decide +kernel), List.mem_of_getElem? (i := 423) (by decide +kernel), List.mem_of_getElem? (i := 424) (by decide +kernel)⟩
theorem lw_p19 : lw_okq (⟨"HintedPages", "copiesOfRewriting", "(II)I"⟩, 7) := ⟨⟨by decide +kernel, by decide +kernel⟩, List.mem_of_getElem? (i := 15) (by decide +kernel), List.mem_of_getElem? (i := 435) (by decide +kernel), List.mem_of_getElem? (i := 436) (by decide +kernel)⟩
theorem lw_p20 : lw_okq (⟨"HintedPages", "readBuffer", "()I"⟩, 7) := ⟨⟨by decide +kernel, by decide +kernel⟩, List.mem_of_getElem? (i := 15) (by decide +kernel), List.mem_of_getElem? (i := 518) (by decide +kernel), List.mem_of_getElem? (i := 519) (by decide +kernel)⟩
theorem lw_p21 : lw_okq (⟨"HintedPages$Reader", "acceptsDigit", "(I)Z"⟩, 4) := ⟨⟨by decide +kernel, by decide +kernel⟩, List.mem_of_getElem? (i := 89) (by decide +kernel), List.mem_of_getElem? (i := 530) (by decide +kernel), List.mem_of_getElem? (i := 531) (by decide +kernel)⟩
theorem lw_p22 : lw_okq (⟨"HintedPages$Reader", "goesOn", "(ZI)Z"⟩, 4) := ⟨⟨by decide +kernel, by decide +kernel⟩, List.mem_of_getElem? (i := 89) (by decide +kernel), List.mem_of_getElem? (i := 534) (by decide +kernel), List.mem_of_getElem? (i := 535) (by decide +kernel)⟩
theorem lw_p23 : lw_okq (⟨"HintedPages$Reader", "acceptsFirst", "(I)Z"⟩, 4) := ⟨⟨by decide +kernel, by decide +kernel⟩, List.mem_of_getElem? (i := 89) (by decide +kernel), List.mem_of_getElem? (i := 538) (by decide +kernel), List.mem_of_getElem? (i := 539) (by decide +kernel)⟩
theorem lw_p24 : lw_okq (⟨"HintedPages$Reader", "acceptsLast", "(IZ)Z"⟩, 4) := ⟨⟨by decide +kernel, by decide +kernel⟩, List.mem_of_getElem? (i := 89) (by decide +kernel), List.mem_of_getElem? (i := 545) (by decide +kernel), List.mem_of_getElem? (i := 546) (by decide +kernel)⟩
theorem lw_p25 : lw_okq (⟨"HintedPages$Reader", "acceptsHint", "(I)Z"⟩, 4) := ⟨⟨by decide +kernel, by decide +kernel⟩, List.mem_of_getElem? (i := 89) (by decide +kernel), List.mem_of_getElem? (i := 549) (by decide +kernel), List.mem_of_getElem? (i := 550) (by decide +kernel)⟩
def lw_privs_2 : List (MethodName × Nat) := [(⟨"HintedPages", "withForecasts", "(J)J"⟩, 7), (⟨"HintedPages", "tryWriting", "(II)V"⟩, 7), (⟨"HintedPages", "forecast", "(II)I"⟩, 7), (⟨"HintedPages", "copiesOfRewriting", "(II)I"⟩, 7), (⟨"HintedPages", "readBuffer", "()I"⟩, 7), (⟨"HintedPages$Reader", "acceptsDigit", "(I)Z"⟩, 4), (⟨"HintedPages$Reader", "goesOn", "(ZI)Z"⟩, 4), (⟨"HintedPages$Reader", "acceptsFirst", "(I)Z"⟩, 4), (⟨"HintedPages$Reader", "acceptsLast", "(IZ)Z"⟩, 4), (⟨"HintedPages$Reader", "acceptsHint", "(I)Z"⟩, 4)]
theorem lw_r2 : ∀ q ∈ lw_privs_2, lw_okq q := List.forall_mem_cons.mpr ⟨lw_p16, List.forall_mem_cons.mpr ⟨lw_p17, List.forall_mem_cons.mpr ⟨lw_p18, List.forall_mem_cons.mpr ⟨lw_p19, List.forall_mem_cons.mpr ⟨lw_p20, List.forall_mem_cons.mpr ⟨lw_p21, List.forall_mem_cons.mpr ⟨lw_p22, List.forall_mem_cons.mpr ⟨lw_p23, List.forall_mem_cons.mpr ⟨lw_p24, List.forall_mem_cons.mpr ⟨lw_p25, fun _ h => absurd h List.not_mem_nil⟩⟩⟩⟩⟩⟩⟩⟩⟩⟩
def lw_privs : List (MethodName × Nat) := lw_privs_1 ++ (lw_privs_2)
def lw_tbl : List Cond := k2_sels lw_privs ++ tables_1
theorem lw_privs_ok : ∀ q ∈ lw_privs, lw_okq q := by
  show ∀ q ∈ lw_privs_1 ++ (lw_privs_2), lw_okq q
  exact List.forall_mem_append.mpr ⟨lw_r1, lw_r2⟩
/-- the streams that the claim lets the run draw from -/
abbrev lw_cs : List Choice := [Jvm.Choice.named "NaN.bits"]
theorem lw_bits : nanBits ∈ lw_cs := by first | decide | exact List.mem_cons_self | simp [lw_cs, nanBits]
end
section
/-! ===== BEGIN words of one list among another's, by their places ===== -/
theorem goodIn_r {big : List Cond} (ws : List Cond) (ps : List Nat) (hp : ws = ps.filterMap (fun i => big[i]?)) (h : ws.all goodWord = true) : GoodIn big ws := by
  intro w hw
  have h1 := List.all_eq_true.mp h w hw
  rw [hp] at hw
  obtain ⟨i, -, hi⟩ := List.mem_filterMap.mp hw
  have hm : w ∈ big := by first | exact List.mem_of_getElem? hi | exact List.getElem?_mem hi
  exact ⟨hm, good_of_word h1⟩
theorem goodIn_app {big a b : List Cond} (ha : GoodIn big a) (hb : GoodIn big b) : GoodIn big (a ++ b) := fun w h => (List.mem_append.mp h).elim (ha w) (hb w)
theorem goodIn_ca {big a b : List Cond} {c : Cond} (ha : GoodIn big (c :: a)) (hb : GoodIn big b) : GoodIn big (c :: (a ++ b)) := fun w h => (List.mem_cons.mp h).elim (fun e => ha w (List.mem_cons.mpr (Or.inl e))) (fun h => (List.mem_append.mp h).elim (fun h => ha w (List.mem_cons.mpr (Or.inr h))) (hb w))
theorem goodIn_sub {big ws : List Cond} (hm : ∀ w ∈ ws, w ∈ big) (h : ws.all goodWord = true) : GoodIn big ws := fun w hw => ⟨hm w hw, good_of_word (List.all_eq_true.mp h w hw)⟩
/-! ===== END ===== -/

/-! ===== BEGIN exceptions that leave a method, and their catching by the caller (launches without stack traces) ===== -/
section VXA
/-! The laws vx_back, vx_callV, vx_callS, vx_callSW, vx_throw0, vx_throwS follow proofs of the library, with one case more: JvmDerived/Free/Laws.lean (Back.of_free), Shelf42/LK1.lean (callV, callS), Shelf/KitTraced.lean (throwNew0V, throwNewS). -/
/-- where a method has thrown q: the class by its name, the cell, what was written, the world -/
def vx_T (XC : String → State → State → Prop) (st : State) (q : Addr) (t : State) (mc ms : Nat) (free : Addr → Prop) : Prop :=
  ∃ (E : String) (ce : Cell) (L : List Loc), XC E st t ∧ t.heap[q]? = some ce ∧ ce.vm = .none ∧ st.vm.findClass E = some ce.cls ∧ st.WarmedH t.vm ∧ st.sameButNew ({ t with vm := st.vm } : State) L mc ms ∧ ∀ z ∈ L, free z.base
def vx_Q (Qc : Array Value → State → Outcome → State → Prop) (XC : String → State → State → Prop) (mc ms : Nat) (free : Addr → Prop) : Array Value → State → Outcome → State → Prop := fun a st o t =>
  (Qc a st o t ∧ ∃ L, FrameEnd st o t L mc ms ∧ ∀ q ∈ L, free q.base) ∨ ∃ q, o = .threw q ∧ vx_T XC st q t mc ms free
/-- a callee that returns or throws -/
def vx_Met (l : Launch) (y : MethodName) (ws : List Cond) (rm : Room) (Pc : Array Value → State → Prop) (Qc : Array Value → State → Outcome → State → Prop) (XC : String → State → State → Prop) (mc ms : Nat) (free : Addr → Prop) : Prop :=
  MetFree l y (headSpec ws rm) Pc (fun _ _ _ _ _ => True) (vx_Q Qc XC mc ms free)
def vx_Post (XC : String → State → State → Prop) (mc ms : Nat) (free : Addr → Prop) : Pt → Array Value → Addr → Pt → Prop := fun A a q B =>
  ∃ (g : JFrame) (mk : MethodId) (t : State) (L : List Loc) (E : String) (ce : Cell), B.U.heap = t.heap ∧ B.U.vm = t.vm ∧ XC E (A.U.calling g mk a) t ∧ t.heap[q]? = some ce ∧ ce.vm = .none ∧ A.U.vm.findClass E = some ce.cls ∧ B.locs = A.locs ++ L ∧ (∀ z ∈ L, free z.base) ∧ B.cells = A.cells + mc ∧ B.slots = A.slots + ms
def vx_Back (l : Launch) (R : Room) (p : Program) (e : Env) (below : List Frame) (s : State) (sargs : Array Value) (y : MethodName) (len W9 : Nat)
    (Pre : Pt → Array Value → Prop) (Post : Pt → Array Value → Option Value → Pt → Prop) (PostX : Pt → Array Value → Addr → Pt → Prop) : Prop :=
  ∀ (m : MethodId) (meth : Method) (c : Code) (A : Pt) (g : JFrame) (ig : Instr) (mk : MethodId) (a : Array Value),
    Stand p l e R s m sargs below meth c A.U A.locs A.cells A.slots → g.method = m → g.locals.size = c.maxLocals → decode c.code g.pc = .ok (ig, len) →
    2 * g.monitorRoom + (g.stack.map fun v => v.category).sum ≤ W9 → A.U.methodNamed? y = some mk → Pre A a →
    (∃ (v : Option Value) (B : Pt), Stand p l e R s m sargs below meth c B.U B.locs B.cells B.slots ∧ Post A a v B ∧
      Steps p.tables e below (doInvoke e (A.U.setTop g) [] mk a).1 (B.U.setTop { g with pc := g.pc + len, stack := v.toList ++ g.stack })) ∨
    (∃ (q : Addr) (B : Pt), Stand p l e R s m sargs below meth c B.U B.locs B.cells B.slots ∧ PostX A a q B ∧
      Steps p.tables e below (doInvoke e (A.U.setTop g) [] mk a).1 ((B.U.setTop g).pushFrame (.throwing q)))
section Payer
variable {l : Launch} {R : Room} {p : Program} {e : Env} {below : List Frame} {s : State} {sargs : Array Value} {y : MethodName} {len W9 : Nat}
theorem vx_back {ws : List Cond} {rm : Room} {Pc : Array Value → State → Prop} {Qc : Array Value → State → Outcome → State → Prop} {XC : String → State → State → Prop} {mc ms : Nat} {free : Addr → Prop} {bytes : ByteArray} {maxL : Nat} {ret : Option FieldType}
    (hM : vx_Met l y ws rm Pc Qc XC mc ms free) (hblind : FrameBlind Pc) (hrc : rm.cells = mc) (hrs : rm.slots = ms)
    (hframes : rm.frames + 1 ≤ R.frames) (hlocals : W9 + (maxL + 11) + rm.locals ≤ R.locals)
    (hws : ∀ w ∈ ws, ∀ a' U, s.WarmedH U.vm → w.before a' U = true) (hcode : Cond.code y bytes maxL ret ∈ ws) (hinit : ∀ a' U, s.WarmedH U.vm → (Cond.initialized y.cls).before a' U = true) :
    vx_Back l R p e below s sargs y len W9 (PreOf R mc ms Pc) (PostOf Qc mc ms free) (vx_Post XC mc ms free) := by
  intro m meth c A g ig mk a X hg hsize hdg hW hn hp
  have h1 : (headSpec ws rm).pre.before a A.U = true := atoms_intro fun w hw => hws w hw _ _ X.warmed
  have h2 : (Cond.code y bytes maxL ret).before a A.U = true := hws _ hcode _ _ X.warmed
  have h3 : (Cond.initialized y.cls).before a A.U = true := hinit _ _ X.warmed
  have h4 : A.cells + (headSpec ws rm).room.cells ≤ R.cells := by rw [show (headSpec ws rm).room.cells = mc from hrc]; exact hp.1
  have h5 : A.slots + (headSpec ws rm).room.slots ≤ R.slots := by rw [show (headSpec ws rm).room.slots = ms from hrs]; exact hp.2.1
  have hPc : Pc a (A.U.calling g mk a) := hblind _ _ _ _ hp.2.2
  obtain ⟨U, Ls, c0, s0⟩ := A
  dsimp only [Pt.U, Pt.locs, Pt.cells, Pt.slots] at h1 h2 h3 h4 h5 X hn hPc ⊢
  obtain ⟨methY, cY, hmY, hcY, -, hlY, -, -, -, -⟩ := Cond.code_spec hn h2
  obtain ⟨kY, hkY, -⟩ := className_of_methodNamed hn
  have hinitY : kY.init = .initialized := Cond.initialized_spec (findClass_of_methodNamed hn) hkY h3
  have h : At U g.method c below := by rw [hg]; exact X.here
  have hlocals9 : W9 + (maxL + 11) + (headSpec ws rm).room.locals ≤ R.locals := hlocals
  have happ : (headSpec ws rm).appliesLoose y e.platform (U.calling g mk a) = true :=
    Spec.appliesLoose_calling (g := g) h hdg hn hkY hinitY
      (X.room_calling (g := g) (R' := (headSpec ws rm).room) hsize hmY hcY hframes (by rw [hlY]; omega) h4 h5) h1
  obtain ⟨mid, hmid⟩ := h.above
  have hfr : (U.setTop g).frames = (.java g :: mid) ++ below := by rw [State.frames_setTop' g h.top, hmid]; rfl
  obtain ⟨o, s₂, hsteps, -, hend, hq⟩ := Steps.callFree hM p X.admits X.cas X.clock (acts := []) hfr happ hPc trivial
  have hq' : vx_Q Qc XC mc ms free a (U.calling g mk a) o s₂ := hq
  rw [State.frames_setTop' g h.top] at hend
  obtain ⟨g₀, hg0⟩ := Option.isSome_iff_exists.mp h.top
  obtain ⟨r, hr⟩ := State.topJava?_eq_some.mp hg0
  have hr' : (({ U with heap := s₂.heap, slotsUsed := s₂.slotsUsed } : State).setVm s₂.vm).frames = .java g₀ :: r := hr
  rcases hq' with ⟨hqc, L, hfe, hL⟩ | ⟨q, rfl, E, ce, L, hx, hce, hcv, hcl, hW₂, hsm, hL⟩
  · obtain ⟨⟨v, rfl⟩, hW₂, e2, q2, q3, q4, q5, q6⟩ := id hfe
    have e3 : s₂ = ({ (U.calling g mk a).setFrames s₂.frames with heap := s₂.heap, slotsUsed := s₂.slotsUsed } : State).setVm s₂.vm := by
      have : s₂ = ({ s₂ with vm := (U.calling g mk a).vm } : State).setVm s₂.vm := rfl
      rw [e2] at this
      exact this
    obtain ⟨c₂, i₂, len₂, hc₂, hd₂, hf₂⟩ := hend
    have hW' : U.WarmedH s₂.vm := hW₂
    have hcc : c₂ = c := by
      have h1 : s₂.code? g.method = U.code? g.method := by
        rw [State.code?_eq, State.code?_eq, hW'.alike.method?]
      exact Option.some.inj (hc₂.symm.trans (h1.trans h.code))
    subst hcc
    have hlen : len₂ = len := by rw [hdg] at hd₂; cases hd₂; rfl
    subst hlen
    have hs₂ : s₂ = (({ U with heap := s₂.heap, slotsUsed := s₂.slotsUsed } : State).setVm s₂.vm).setTop { g with pc := g.pc + len₂, stack := v.toList ++ g.stack } := by
      refine e3.trans ?_
      rw [hf₂, State.calling_eq h.top, State.setFrames_setFrames, State.setTop_of_frames _ hr', hr]
      rfl
    have hsame : U.sameButNew ({ U with heap := s₂.heap, slotsUsed := s₂.slotsUsed } : State) L mc ms := by
      refine ⟨?_, q2, q3, q4, q5, q6⟩
      obtain ⟨t, ht, -⟩ := State.frames_cons hr
      show ({ U with heap := s₂.heap, slotsUsed := s₂.slotsUsed } : State) = { U.setFrames U.frames with heap := s₂.heap, slotsUsed := s₂.slotsUsed }
      rw [State.setFrames_self ht]
    subst hg
    refine Or.inl ⟨v, ⟨(({ U with heap := s₂.heap, slotsUsed := s₂.slotsUsed } : State).setVm s₂.vm), Ls ++ L, c0 + mc, s0 + ms⟩,
      ⟨X.admits, X.cas, X.clock, X.frames, X.room, X.hears, X.method, X.code, (X.here.setHeapUsed s₂.heap s₂.slotsUsed).setVm hW'.alike, X.tail, State.WarmedH.trans X.warmed hW', X.limits, X.bytes, X.same.trans (hsame.setVm s.vm)⟩,
      ⟨g, mk, s₂, L, rfl, rfl, hqc, rfl, hL, rfl, rfl⟩, ?_⟩
    show Steps p.tables e below _ ((({ U with heap := s₂.heap, slotsUsed := s₂.slotsUsed } : State).setVm s₂.vm).setTop { g with pc := g.pc + len₂, stack := v.toList ++ g.stack })
    rw [← hs₂]
    exact hsteps
  · obtain ⟨e2, q2, q3, q4, q5, q6⟩ := id hsm
    have e3 : s₂ = ({ (U.calling g mk a).setFrames s₂.frames with heap := s₂.heap, slotsUsed := s₂.slotsUsed } : State).setVm s₂.vm := by
      have : s₂ = ({ s₂ with vm := (U.calling g mk a).vm } : State).setVm s₂.vm := rfl
      rw [e2] at this
      exact this
    have hf₂ : s₂.frames = .throwing q :: .java g :: U.frames.tail := hend
    have hW' : U.WarmedH s₂.vm := hW₂
    have hs₂ : s₂ = ((({ U with heap := s₂.heap, slotsUsed := s₂.slotsUsed } : State).setVm s₂.vm).setTop g).pushFrame (.throwing q) := by
      refine e3.trans ?_
      rw [hf₂, State.calling_eq h.top, State.setFrames_setFrames, State.pushFrame, State.frames_setTop _ hr', State.setTop_of_frames _ hr', State.setFrames_setFrames, hr]
      rfl
    have hsame : U.sameButNew ({ U with heap := s₂.heap, slotsUsed := s₂.slotsUsed } : State) L mc ms := by
      refine ⟨?_, q2, q3, q4, q5, q6⟩
      obtain ⟨t, ht, -⟩ := State.frames_cons hr
      show ({ U with heap := s₂.heap, slotsUsed := s₂.slotsUsed } : State) = { U.setFrames U.frames with heap := s₂.heap, slotsUsed := s₂.slotsUsed }
      rw [State.setFrames_self ht]
    subst hg
    refine Or.inr ⟨q, ⟨(({ U with heap := s₂.heap, slotsUsed := s₂.slotsUsed } : State).setVm s₂.vm), Ls ++ L, c0 + mc, s0 + ms⟩,
      ⟨X.admits, X.cas, X.clock, X.frames, X.room, X.hears, X.method, X.code, (X.here.setHeapUsed s₂.heap s₂.slotsUsed).setVm hW'.alike, X.tail, State.WarmedH.trans X.warmed hW', X.limits, X.bytes, X.same.trans (hsame.setVm s.vm)⟩,
      ⟨g, mk, s₂, L, E, ce, rfl, rfl, hx, hce, hcv, hcl, rfl, hL, rfl, rfl⟩, ?_⟩
    show Steps p.tables e below _ (((({ U with heap := s₂.heap, slotsUsed := s₂.slotsUsed } : State).setVm s₂.vm).setTop g).pushFrame (.throwing q))
    rw [← hs₂]
    exact hsteps
end Payer
section Calls
variable {p : Program} {l : Launch} {e : Env} {R : Room} {s : State} {m : MethodId} {args : Array Value} {below : List Frame} {meth : Method} {c : Code} {T : State} {locs : List Loc} {cells slots : Nat}
theorem vx_callV (X : Stand p l e R s m args below meth c T locs cells slots) (hexec : p.tables.exec = Jvm.exec) {own C : String} {index : Nat} {y : MethodName} {bytes : ByteArray} {maxL : Nat} {ret : Option FieldType}
    (hown : s.vm.findClass own = some m.cls) (hlink : (Cond.methodLink own index y).before args s = true) (hinst : (Cond.instanceMethod y).before args s = true) (hsel : (Cond.selects C y y).before args s = true)
    (hcode : (Cond.code y bytes maxL ret).before args s = true) (hy : y.cls ≠ "java/lang/invoke/MethodHandle" ∧ y.cls ≠ "java/lang/invoke/VarHandle")
    {W9 : Nat} {Pre : Pt → Array Value → Prop} {Post : Pt → Array Value → Option Value → Pt → Prop} {PostX : Pt → Array Value → Addr → Pt → Prop} (hK : vx_Back l R p e below s args y 3 W9 Pre Post PostX)
    {b : Addr} {cellB : Cell} (hcell : T.heap[b]? = some cellB) (hobj : cellB.vm.isStatics = false) (hcls : s.vm.findClass C = some cellB.cls)
    {g : JFrame} (hg : g.method = m) (hsize : g.locals.size = c.maxLocals) {argsL rest : List Value} (hlen : ∀ sig, parseMethodDescriptor y.desc = some sig → argsL.length = sig.parameters.length)
    (hstack : g.stack = argsL.reverse ++ .ref b :: rest) (hW : 2 * g.monitorRoom + (rest.map fun v => v.category).sum ≤ W9) (hdg : decode c.code g.pc = .ok (.invokevirtual index, 3))
    (hpre : ∀ vm₁, s.WarmedH vm₁ → Pre ⟨T.setVm vm₁, locs, cells, slots⟩ (Value.ref b :: argsL).toArray) :
    (∃ (v : Option Value) (vm₁ : Vm) (B : Pt), s.WarmedH vm₁ ∧ Stand p l e R s m args below meth c B.U B.locs B.cells B.slots ∧ Post ⟨T.setVm vm₁, locs, cells, slots⟩ (Value.ref b :: argsL).toArray v B ∧
      ∀ target, Steps p.tables e below (B.U.setTop { g with pc := g.pc + 3, stack := v.toList ++ rest }) target → Steps p.tables e below (T.setTop g) target) ∨
    (∃ (q : Addr) (vm₁ : Vm) (B : Pt), s.WarmedH vm₁ ∧ Stand p l e R s m args below meth c B.U B.locs B.cells B.slots ∧ PostX ⟨T.setVm vm₁, locs, cells, slots⟩ (Value.ref b :: argsL).toArray q B ∧
      Steps p.tables e below (T.setTop g) ((B.U.setTop { g with stack := rest }).pushFrame (.throwing q))) := by
  obtain ⟨mk, methM, hnamed, hmethM, hstM, habM⟩ := Cond.instanceMethod_spec hinst
  obtain ⟨methM', cM, hmethM', -, -, -, -, -, -, hsigM⟩ := Cond.code_spec hnamed hcode
  cases hmethM.symm.trans hmethM'
  obtain ⟨c2, r2, m2, q1, q2, q3, q4, kP, hkP, hkPi⟩ := Cond.selects_spec hsel
  cases hcls.symm.trans q1
  cases (State.methodFound?_of_named hnamed hy).symm.trans q2
  cases hnamed.symm.trans q3
  have hselP : selectMethod e.platform s.vm cellB.cls mk = .method mk := by rw [Launch.admits_selectMethod X.admits]; exact q4
  obtain ⟨vm₁, X₁, hstep₁⟩ := X.invokevirtual hexec hown hlink hnamed hmethM hstM hkP hkPi hy (a := b) (cell := cellB) hcell
    (fun z h => by rw [h] at hobj; cases hobj) hselP hmethM habM hkP hkPi (g := g) hg (argsL := argsL) (rest := rest) (hlen _ hsigM) hstack hdg
  rcases hK m meth c ⟨T.setVm vm₁, locs, cells, slots⟩ { g with stack := rest } (.invokevirtual index) mk (Value.ref b :: argsL).toArray X₁ hg hsize hdg hW (X₁.named hnamed) (hpre vm₁ X₁.warmed) with ⟨v, B, X', hpost, hsteps⟩ | ⟨q, B, X', hpost, hsteps⟩
  · exact Or.inl ⟨v, vm₁, B, X₁.warmed, X', hpost, fun target h => hstep₁ _ fun acts => by rw [doInvoke_state]; exact hsteps.trans h⟩
  · exact Or.inr ⟨q, vm₁, B, X₁.warmed, X', hpost, hstep₁ _ fun acts => by rw [doInvoke_state]; exact hsteps⟩
theorem vx_callS (X : Stand p l e R s m args below meth c T locs cells slots) (hexec : p.tables.exec = Jvm.exec) {own : String} {index : Nat} {y : MethodName} {bytes : ByteArray} {maxL : Nat} {ret : Option FieldType}
    (hown : s.vm.findClass own = some m.cls) (hlink : (Cond.methodLink own index y).before args s = true) (hstat : (Cond.static y).before args s = true) (hinit : (Cond.initialized y.cls).before args s = true)
    (hcode : (Cond.code y bytes maxL ret).before args s = true) (hy : y.cls ≠ "java/lang/invoke/MethodHandle" ∧ y.cls ≠ "java/lang/invoke/VarHandle")
    {W9 : Nat} {Pre : Pt → Array Value → Prop} {Post : Pt → Array Value → Option Value → Pt → Prop} {PostX : Pt → Array Value → Addr → Pt → Prop} (hK : vx_Back l R p e below s args y 3 W9 Pre Post PostX)
    {g : JFrame} (hg : g.method = m) (hsize : g.locals.size = c.maxLocals) {argsL rest : List Value} (hlen : ∀ sig, parseMethodDescriptor y.desc = some sig → argsL.length = sig.parameters.length)
    (hstack : g.stack = argsL.reverse ++ rest) (hW : 2 * g.monitorRoom + (rest.map fun v => v.category).sum ≤ W9) (hdg : decode c.code g.pc = .ok (.invokestatic index, 3))
    (hpre : ∀ vm₁, s.WarmedH vm₁ → Pre ⟨T.setVm vm₁, locs, cells, slots⟩ argsL.toArray) :
    (∃ (v : Option Value) (vm₁ : Vm) (B : Pt), s.WarmedH vm₁ ∧ Stand p l e R s m args below meth c B.U B.locs B.cells B.slots ∧ Post ⟨T.setVm vm₁, locs, cells, slots⟩ argsL.toArray v B ∧
      ∀ target, Steps p.tables e below (B.U.setTop { g with pc := g.pc + 3, stack := v.toList ++ rest }) target → Steps p.tables e below (T.setTop g) target) ∨
    (∃ (q : Addr) (vm₁ : Vm) (B : Pt), s.WarmedH vm₁ ∧ Stand p l e R s m args below meth c B.U B.locs B.cells B.slots ∧ PostX ⟨T.setVm vm₁, locs, cells, slots⟩ argsL.toArray q B ∧
      Steps p.tables e below (T.setTop g) ((B.U.setTop { g with stack := rest }).pushFrame (.throwing q))) := by
  obtain ⟨mk, hnamed⟩ := Cond.code_named hcode
  obtain ⟨methM, cM, hmethM, -, -, -, -, -, -, hsigM⟩ := Cond.code_spec hnamed hcode
  have hstatic : methM.isStatic = true := Cond.static_spec hnamed hmethM hstat
  obtain ⟨kP, hkP, -⟩ := className_of_methodNamed hnamed
  have hinitP : kP.init = .initialized := Cond.initialized_spec (findClass_of_methodNamed hnamed) hkP hinit
  obtain ⟨vm₁, X₁, hstep₁⟩ := X.invokestatic hexec hown hlink hnamed hmethM hstatic hkP hinitP hy (g := g) hg (argsL := argsL) (rest := rest) (hlen _ hsigM) hstack hdg
  rcases hK m meth c ⟨T.setVm vm₁, locs, cells, slots⟩ { g with stack := rest } (.invokestatic index) mk argsL.toArray X₁ hg hsize hdg hW (X₁.named hnamed) (hpre vm₁ X₁.warmed) with ⟨v, B, X', hpost, hsteps⟩ | ⟨q, B, X', hpost, hsteps⟩
  · exact Or.inl ⟨v, vm₁, B, X₁.warmed, X', hpost, fun target h => hstep₁ _ fun acts => by rw [doInvoke_state]; exact hsteps.trans h⟩
  · exact Or.inr ⟨q, vm₁, B, X₁.warmed, X', hpost, hstep₁ _ fun acts => by rw [doInvoke_state]; exact hsteps⟩
end Calls
theorem vx_cls {s : State} {T : State} {vm₁ : Vm} {E : String} {k : ClassId} (hW : s.WarmedH vm₁) (h : (T.setVm vm₁).vm.findClass E = some k) : s.vm.findClass E = some k := by
  have h1 : vm₁.findClass E = some k := h
  rw [hW.alike.findClass] at h1
  exact h1
/-- the method's frame g, with q thrown over it -/
def vx_W (p : Program) (l : Launch) (e : Env) (R : Room) (s : State) (m : MethodId) (args : Array Value) (below : List Frame) (meth : Method) (c : Code) (H : Heap) (locs : List Loc) (cells slots : Nat) (Q : State → Prop) (g : JFrame) (q : Addr) : Prop :=
  ∀ T : State, T.heap = H → Stand p l e R s m args below meth c T locs cells slots → ∃ t, Steps p.tables e below ((T.setTop g).pushFrame (.throwing q)) t ∧ Q t
def vx_Run (p : Program) (l : Launch) (e : Env) (R : Room) (s : State) (m : MethodId) (args : Array Value) (below : List Frame) (meth : Method) (c : Code) (H : Heap) (locs : List Loc) (cells slots mc ms : Nat) (g : JFrame) (rest : List Value) (Qa : State → Outcome → State → Prop) (XC : String → State → State → Prop) (free : Addr → Prop) : Prop :=
  ∀ T : State, T.heap = H → Stand p l e R s m args below meth c T locs cells slots →
    (∃ (v : Option Value) (st₀ t T' : State) (L : List Loc), st₀.heap = H ∧ Stand p l e R s m args below meth c T' (locs ++ L) (cells + mc) (slots + ms) ∧ (∀ q ∈ L, free q.base) ∧ T'.heap = t.heap ∧ T'.vm = t.vm ∧ Qa st₀ (.returned v) t ∧
      Goes p e below T g T' { g with pc := g.pc + 3, stack := v.toList ++ rest }) ∨
    (∃ (q : Addr) (st₀ t T' : State) (L : List Loc) (E : String) (ce : Cell), st₀.heap = H ∧ Stand p l e R s m args below meth c T' (locs ++ L) (cells + mc) (slots + ms) ∧ (∀ z ∈ L, free z.base) ∧ T'.heap = t.heap ∧ T'.vm = t.vm ∧ XC E st₀ t ∧ t.heap[q]? = some ce ∧ ce.vm = .none ∧ s.vm.findClass E = some ce.cls ∧
      Steps p.tables e below (T.setTop g) ((T'.setTop { g with stack := rest }).pushFrame (.throwing q)))
def vx_X {S : Type} (px : S → Prop) (B : String → S → State → Prop) (A : Nat → Prop) : String → State → State → Prop := fun E st t => ∃ u : S, px u ∧ B E u t ∧ va_F A st t
section Runs
variable {p : Program} {l : Launch} {e : Env} {R : Room} {s : State} {m : MethodId} {args : Array Value} {below : List Frame} {meth : Method} {c : Code} {H : Heap} {locs : List Loc} {cells slots : Nat}
variable {y : MethodName} {bytes cc : ByteArray} {maxL nL mc ms n index : Nat} {ret : Option FieldType} {ws : List Cond} {rm : Room} {Pc : Array Value → State → Prop} {Qc : Array Value → State → Outcome → State → Prop} {XC : String → State → State → Prop} {free : Addr → Prop} {Ts : List Cond} {own C : String} {b : Addr} {As rest : List Value} {g : JFrame}
theorem vx_callBack (cb : CallB R s args own index y bytes maxL ret ws rm mc ms n) (hM : vx_Met l y ws rm Pc Qc XC mc ms free) (hbl : FrameBlind Pc) : vx_Back l R p e below s args y 3 8 (PreOf R mc ms Pc) (PostOf Qc mc ms free) (vx_Post XC mc ms free) := by
  obtain ⟨hrc, hrs, hfr, hlo, hws, hcw, -, hini, -⟩ := cb
  exact vx_back (bytes := bytes) (maxL := maxL) (ret := ret) hM hbl hrc hrs hfr hlo hws hcw (fun a' U hW => word_at hW (Or.inl (by first | rfl | simp [Cond.onTables, Cond.keeps, Cond.steady])) hini)
theorem vx_runV (S : CallFix p m c cc nL s args Ts own) (hM : vx_Met l y ws rm Pc Qc XC mc ms free) (cw : CallW R s args own C index y bytes maxL ret ws rm mc ms n) (hp : PreV s H C b Pc As)
    (hg : g.method = m) (hn : As.length = n) (hsize : g.locals.size = nL) (hstack : g.stack = As.reverse ++ .ref b :: rest) (hW : 2 * g.monitorRoom + (rest.map fun v => v.category).sum ≤ 8) (hdg : decode cc g.pc = .ok (.invokevirtual index, 3)) (hf : cells + mc ≤ R.cells ∧ slots + ms ≤ R.slots) :
    vx_Run p l e R s m args below meth c H locs cells slots mc ms g rest (Qc (Value.ref b :: As).toArray) XC free := by
  have hK : vx_Back l R p e below s args y 3 8 (PreOf R mc ms Pc) (PostOf Qc mc ms free) (vx_Post XC mc ms free) := vx_callBack cw.1 hM hp.1
  obtain ⟨⟨-, -, -, -, -, -, hcode, -, hy, hlen, hl⟩, hin, hse⟩ := cw
  obtain ⟨hx, hb, hml, ho, -⟩ := S
  obtain ⟨-, ⟨cellB, hcB, hoB, hclB⟩, hPc⟩ := hp
  intro T hT X
  rcases vx_callV X hx (C := C) (bytes := bytes) (maxL := maxL) (ret := ret) ho hl hin hse hcode hy hK (by rw [hT]; exact hcB) hoB hclB hg (hsize.trans hml.symm) (argsL := As) (rest := rest) (fun sig h => hn.trans (hlen sig h)) hstack hW (by rw [hb]; exact hdg)
    (fun vm₁ hW₁ => ⟨hf.1, hf.2, hPc (T.setVm vm₁) hT hW₁⟩) with ⟨v, vm₁, ⟨U', l2, c2, s2⟩, hW₁, X', ⟨g', mk, t, L, e1, e2, hq, h1, hL, h2, h3⟩, st⟩ | ⟨q, vm₁, ⟨U', l2, c2, s2⟩, hW₁, X', ⟨g', mk, t, L, E, ce, e1, e2, hq, hce, hcv, hcl, h1, hL, h2, h3⟩, st⟩
  · dsimp only [Pt.U, Pt.locs, Pt.cells, Pt.slots] at X' e1 e2 h1 h2 h3 st
    subst h1; subst h2; subst h3
    exact Or.inl ⟨v, (T.setVm vm₁).calling g' mk (Value.ref b :: As).toArray, t, U', L, hT, X', hL, e1, e2, hq, st⟩
  · dsimp only [Pt.U, Pt.locs, Pt.cells, Pt.slots] at X' e1 e2 h1 h2 h3 st hcl
    subst h1; subst h2; subst h3
    exact Or.inr ⟨q, (T.setVm vm₁).calling g' mk (Value.ref b :: As).toArray, t, U', L, E, ce, hT, X', hL, e1, e2, hq, hce, hcv, vx_cls hW₁ hcl, st⟩
theorem vx_runS (S : CallFix p m c cc nL s args Ts own) (hM : vx_Met l y ws rm Pc Qc XC mc ms free) (cw : CallB R s args own index y bytes maxL ret ws rm mc ms n ∧ (Cond.static y).before args s = true) (hp : PreS s H Pc As)
    (hg : g.method = m) (hn : As.length = n) (hsize : g.locals.size = nL) (hstack : g.stack = As.reverse ++ rest) (hW : 2 * g.monitorRoom + (rest.map fun v => v.category).sum ≤ 8) (hdg : decode cc g.pc = .ok (.invokestatic index, 3)) (hf : cells + mc ≤ R.cells ∧ slots + ms ≤ R.slots) :
    vx_Run p l e R s m args below meth c H locs cells slots mc ms g rest (Qc As.toArray) XC free := by
  have hK : vx_Back l R p e below s args y 3 8 (PreOf R mc ms Pc) (PostOf Qc mc ms free) (vx_Post XC mc ms free) := vx_callBack cw.1 hM hp.1
  obtain ⟨⟨-, -, -, -, -, -, hcode, hini, hy, hlen, hl⟩, hstt⟩ := cw
  obtain ⟨hx, hb, hml, ho, -⟩ := S
  intro T hT X
  rcases vx_callS X hx (bytes := bytes) (maxL := maxL) (ret := ret) ho hl hstt hini hcode hy hK hg (hsize.trans hml.symm) (argsL := As) (rest := rest) (fun sig h => hn.trans (hlen sig h)) hstack hW (by rw [hb]; exact hdg)
    (fun vm₁ hW₁ => ⟨hf.1, hf.2, hp.2 (T.setVm vm₁) hT hW₁⟩) with ⟨v, vm₁, ⟨U', l2, c2, s2⟩, hW₁, X', ⟨g', mk, t, L, e1, e2, hq, h1, hL, h2, h3⟩, st⟩ | ⟨q, vm₁, ⟨U', l2, c2, s2⟩, hW₁, X', ⟨g', mk, t, L, E, ce, e1, e2, hq, hce, hcv, hcl, h1, hL, h2, h3⟩, st⟩
  · dsimp only [Pt.U, Pt.locs, Pt.cells, Pt.slots] at X' e1 e2 h1 h2 h3 st
    subst h1; subst h2; subst h3
    exact Or.inl ⟨v, (T.setVm vm₁).calling g' mk As.toArray, t, U', L, hT, X', hL, e1, e2, hq, st⟩
  · dsimp only [Pt.U, Pt.locs, Pt.cells, Pt.slots] at X' e1 e2 h1 h2 h3 st hcl
    subst h1; subst h2; subst h3
    exact Or.inr ⟨q, (T.setVm vm₁).calling g' mk As.toArray, t, U', L, E, ce, hT, X', hL, e1, e2, hq, hce, hcv, vx_cls hW₁ hcl, st⟩
end Runs
section Rows
variable {p : Program} {l : Launch} {e : Env} {R : Room} {s : State} {m : MethodId} {args : Array Value} {below : List Frame} {meth : Method} {c : Code} {H : Heap} {locs : List Loc} {cells slots : Nat} {Q : State → Prop}
variable {mc ms : Nat} {free : Addr → Prop} {A0 A1 : Nat → Prop} {H0 : Heap} {a : Array Value} {pc : Nat} {ls : Array Slot} {st0 rest : List Value}
theorem vx_keep {st₀ t T' : State} {L : List Loc} (h0 : st₀.heap = H) (e1 : T'.heap = t.heap) (hS : va_S A0 H0 H locs) (hA : ∀ q, q < H.size → A1 q → A0 q) (hf : ∀ q, free q → A0 q) (hL : ∀ q ∈ L, free q.base) (hF : va_F A1 st₀ t) :
    H.size ≤ T'.heap.size ∧ (∀ q : Nat, q < H.size → ¬ A1 q → T'.heap[q]? = H[q]?) ∧ va_S A0 H0 T'.heap (locs ++ L) := by
  obtain ⟨hz, hk⟩ := hF
  rw [h0] at hz hk
  exact ⟨by rw [e1]; exact hz, fun q h1 h2 => by rw [e1]; exact hk q h1 h2,
    ⟨Nat.le_trans hS.1 (by rw [e1]; exact hz), fun q h1 h2 => by rw [e1, hk q (Nat.lt_of_lt_of_le h1 hS.1) (fun z => h2 (hA q (Nat.lt_of_lt_of_le h1 hS.1) z))]; exact hS.2.1 q h1 h2, fun q hq => by
      rcases List.mem_append.mp hq with h | h
      · exact hS.2.2 q h
      · exact hf _ (hL q h)⟩⟩
theorem vx_calli {S SX : Type} {post : Int32 → S → Prop} {px : SX → Prop} {B : S → State → Prop} {BX : String → SX → State → Prop} {AX : Nat → Prop} (hr : vx_Run p l e R s m args below meth c H locs cells slots mc ms (F0 m pc ls st0) rest (va_Qi post B A1 a) (vx_X px BX AX) free) (hS : va_S A0 H0 H locs) (hA : ∀ q, q < H.size → A1 q → A0 q) (hf : ∀ q, free q → A0 q) (hAX : ∀ q, q < H.size → AX q → A0 q)
    (kx : ∀ (E : String) (ce : Cell) (q9 : Addr) (u : SX) (t : State) (H1 : Heap) (locs1 : List Loc), t.heap = H1 → s.vm.Alike t.vm → px u → BX E u t → H.size ≤ H1.size → (∀ q : Nat, q < H.size → ¬ AX q → H1[q]? = H[q]?) → va_S A0 H0 H1 locs1 → H1[q9]? = some ce → ce.vm = .none → s.vm.findClass E = some ce.cls → vx_W p l e R s m args below meth c H1 locs1 (cells + mc) (slots + ms) Q (F0 m pc ls rest) q9)
    (kk : ∀ (r : Int32) (u : S) (t : State) (H1 : Heap) (locs1 : List Loc), t.heap = H1 → s.vm.Alike t.vm → post r u → B u t → H.size ≤ H1.size → (∀ q : Nat, q < H.size → ¬ A1 q → H1[q]? = H[q]?) → va_S A0 H0 H1 locs1 → W p l e R s m args below meth c H1 locs1 (cells + mc) (slots + ms) Q (F0 m (pc + 3) ls (.int r :: rest))) : W p l e R s m args below meth c H locs cells slots Q (F0 m pc ls st0) := by
  intro T hT X
  rcases hr T hT X with ⟨v, st₀, t, T', L, h0, X', hL, e1, e2, ⟨⟨r, u, hv, hp, hb⟩, hF⟩, st⟩ | ⟨q, st₀, t, T', L, E, ce, h0, X', hL, e1, e2, ⟨u, hp, hb, hF⟩, hce, hcv, hcl, st⟩
  · cases hv
    obtain ⟨k1, k2, k3⟩ := vx_keep h0 e1 hS hA hf hL hF
    obtain ⟨t2, a1, b1⟩ := kk r u t T'.heap (locs ++ L) e1.symm (by rw [← e2]; exact X'.warmed.alike) hp hb k1 k2 k3 T' rfl X'
    exact ⟨t2, st t2 a1, b1⟩
  · obtain ⟨k1, k2, k3⟩ := vx_keep h0 e1 hS hAX hf hL hF
    obtain ⟨t2, a1, b1⟩ := kx E ce q u t T'.heap (locs ++ L) e1.symm (by rw [← e2]; exact X'.warmed.alike) hp hb k1 k2 k3 (by rw [e1]; exact hce) hcv hcl T' rfl X'
    exact ⟨t2, st.trans a1, b1⟩
theorem vx_calll {S SX : Type} {post : Int64 → S → Prop} {px : SX → Prop} {B : S → State → Prop} {BX : String → SX → State → Prop} {AX : Nat → Prop} (hr : vx_Run p l e R s m args below meth c H locs cells slots mc ms (F0 m pc ls st0) rest (va_Ql post B A1 a) (vx_X px BX AX) free) (hS : va_S A0 H0 H locs) (hA : ∀ q, q < H.size → A1 q → A0 q) (hf : ∀ q, free q → A0 q) (hAX : ∀ q, q < H.size → AX q → A0 q)
    (kx : ∀ (E : String) (ce : Cell) (q9 : Addr) (u : SX) (t : State) (H1 : Heap) (locs1 : List Loc), t.heap = H1 → s.vm.Alike t.vm → px u → BX E u t → H.size ≤ H1.size → (∀ q : Nat, q < H.size → ¬ AX q → H1[q]? = H[q]?) → va_S A0 H0 H1 locs1 → H1[q9]? = some ce → ce.vm = .none → s.vm.findClass E = some ce.cls → vx_W p l e R s m args below meth c H1 locs1 (cells + mc) (slots + ms) Q (F0 m pc ls rest) q9)
    (kk : ∀ (r : Int64) (u : S) (t : State) (H1 : Heap) (locs1 : List Loc), t.heap = H1 → s.vm.Alike t.vm → post r u → B u t → H.size ≤ H1.size → (∀ q : Nat, q < H.size → ¬ A1 q → H1[q]? = H[q]?) → va_S A0 H0 H1 locs1 → W p l e R s m args below meth c H1 locs1 (cells + mc) (slots + ms) Q (F0 m (pc + 3) ls (.long r :: rest))) : W p l e R s m args below meth c H locs cells slots Q (F0 m pc ls st0) := by
  intro T hT X
  rcases hr T hT X with ⟨v, st₀, t, T', L, h0, X', hL, e1, e2, ⟨⟨r, u, hv, hp, hb⟩, hF⟩, st⟩ | ⟨q, st₀, t, T', L, E, ce, h0, X', hL, e1, e2, ⟨u, hp, hb, hF⟩, hce, hcv, hcl, st⟩
  · cases hv
    obtain ⟨k1, k2, k3⟩ := vx_keep h0 e1 hS hA hf hL hF
    obtain ⟨t2, a1, b1⟩ := kk r u t T'.heap (locs ++ L) e1.symm (by rw [← e2]; exact X'.warmed.alike) hp hb k1 k2 k3 T' rfl X'
    exact ⟨t2, st t2 a1, b1⟩
  · obtain ⟨k1, k2, k3⟩ := vx_keep h0 e1 hS hAX hf hL hF
    obtain ⟨t2, a1, b1⟩ := kx E ce q u t T'.heap (locs ++ L) e1.symm (by rw [← e2]; exact X'.warmed.alike) hp hb k1 k2 k3 (by rw [e1]; exact hce) hcv hcl T' rfl X'
    exact ⟨t2, st.trans a1, b1⟩
theorem vx_callf {S SX : Type} {post : UInt32 → S → Prop} {px : SX → Prop} {B : S → State → Prop} {BX : String → SX → State → Prop} {AX : Nat → Prop} (hr : vx_Run p l e R s m args below meth c H locs cells slots mc ms (F0 m pc ls st0) rest (va_Qf post B A1 a) (vx_X px BX AX) free) (hS : va_S A0 H0 H locs) (hA : ∀ q, q < H.size → A1 q → A0 q) (hf : ∀ q, free q → A0 q) (hAX : ∀ q, q < H.size → AX q → A0 q)
    (kx : ∀ (E : String) (ce : Cell) (q9 : Addr) (u : SX) (t : State) (H1 : Heap) (locs1 : List Loc), t.heap = H1 → s.vm.Alike t.vm → px u → BX E u t → H.size ≤ H1.size → (∀ q : Nat, q < H.size → ¬ AX q → H1[q]? = H[q]?) → va_S A0 H0 H1 locs1 → H1[q9]? = some ce → ce.vm = .none → s.vm.findClass E = some ce.cls → vx_W p l e R s m args below meth c H1 locs1 (cells + mc) (slots + ms) Q (F0 m pc ls rest) q9)
    (kk : ∀ (r : UInt32) (u : S) (t : State) (H1 : Heap) (locs1 : List Loc), t.heap = H1 → s.vm.Alike t.vm → post r u → B u t → H.size ≤ H1.size → (∀ q : Nat, q < H.size → ¬ A1 q → H1[q]? = H[q]?) → va_S A0 H0 H1 locs1 → W p l e R s m args below meth c H1 locs1 (cells + mc) (slots + ms) Q (F0 m (pc + 3) ls (.float r :: rest))) : W p l e R s m args below meth c H locs cells slots Q (F0 m pc ls st0) := by
  intro T hT X
  rcases hr T hT X with ⟨v, st₀, t, T', L, h0, X', hL, e1, e2, ⟨⟨r, u, hv, hp, hb⟩, hF⟩, st⟩ | ⟨q, st₀, t, T', L, E, ce, h0, X', hL, e1, e2, ⟨u, hp, hb, hF⟩, hce, hcv, hcl, st⟩
  · cases hv
    obtain ⟨k1, k2, k3⟩ := vx_keep h0 e1 hS hA hf hL hF
    obtain ⟨t2, a1, b1⟩ := kk r u t T'.heap (locs ++ L) e1.symm (by rw [← e2]; exact X'.warmed.alike) hp hb k1 k2 k3 T' rfl X'
    exact ⟨t2, st t2 a1, b1⟩
  · obtain ⟨k1, k2, k3⟩ := vx_keep h0 e1 hS hAX hf hL hF
    obtain ⟨t2, a1, b1⟩ := kx E ce q u t T'.heap (locs ++ L) e1.symm (by rw [← e2]; exact X'.warmed.alike) hp hb k1 k2 k3 (by rw [e1]; exact hce) hcv hcl T' rfl X'
    exact ⟨t2, st.trans a1, b1⟩
theorem vx_calld {S SX : Type} {post : UInt64 → S → Prop} {px : SX → Prop} {B : S → State → Prop} {BX : String → SX → State → Prop} {AX : Nat → Prop} (hr : vx_Run p l e R s m args below meth c H locs cells slots mc ms (F0 m pc ls st0) rest (va_Qd post B A1 a) (vx_X px BX AX) free) (hS : va_S A0 H0 H locs) (hA : ∀ q, q < H.size → A1 q → A0 q) (hf : ∀ q, free q → A0 q) (hAX : ∀ q, q < H.size → AX q → A0 q)
    (kx : ∀ (E : String) (ce : Cell) (q9 : Addr) (u : SX) (t : State) (H1 : Heap) (locs1 : List Loc), t.heap = H1 → s.vm.Alike t.vm → px u → BX E u t → H.size ≤ H1.size → (∀ q : Nat, q < H.size → ¬ AX q → H1[q]? = H[q]?) → va_S A0 H0 H1 locs1 → H1[q9]? = some ce → ce.vm = .none → s.vm.findClass E = some ce.cls → vx_W p l e R s m args below meth c H1 locs1 (cells + mc) (slots + ms) Q (F0 m pc ls rest) q9)
    (kk : ∀ (r : UInt64) (u : S) (t : State) (H1 : Heap) (locs1 : List Loc), t.heap = H1 → s.vm.Alike t.vm → post r u → B u t → H.size ≤ H1.size → (∀ q : Nat, q < H.size → ¬ A1 q → H1[q]? = H[q]?) → va_S A0 H0 H1 locs1 → W p l e R s m args below meth c H1 locs1 (cells + mc) (slots + ms) Q (F0 m (pc + 3) ls (.double r :: rest))) : W p l e R s m args below meth c H locs cells slots Q (F0 m pc ls st0) := by
  intro T hT X
  rcases hr T hT X with ⟨v, st₀, t, T', L, h0, X', hL, e1, e2, ⟨⟨r, u, hv, hp, hb⟩, hF⟩, st⟩ | ⟨q, st₀, t, T', L, E, ce, h0, X', hL, e1, e2, ⟨u, hp, hb, hF⟩, hce, hcv, hcl, st⟩
  · cases hv
    obtain ⟨k1, k2, k3⟩ := vx_keep h0 e1 hS hA hf hL hF
    obtain ⟨t2, a1, b1⟩ := kk r u t T'.heap (locs ++ L) e1.symm (by rw [← e2]; exact X'.warmed.alike) hp hb k1 k2 k3 T' rfl X'
    exact ⟨t2, st t2 a1, b1⟩
  · obtain ⟨k1, k2, k3⟩ := vx_keep h0 e1 hS hAX hf hL hF
    obtain ⟨t2, a1, b1⟩ := kx E ce q u t T'.heap (locs ++ L) e1.symm (by rw [← e2]; exact X'.warmed.alike) hp hb k1 k2 k3 (by rw [e1]; exact hce) hcv hcl T' rfl X'
    exact ⟨t2, st.trans a1, b1⟩
theorem vx_callv {S SX : Type} {post : S → Prop} {px : SX → Prop} {B : S → State → Prop} {BX : String → SX → State → Prop} {AX : Nat → Prop} (hr : vx_Run p l e R s m args below meth c H locs cells slots mc ms (F0 m pc ls st0) rest (va_Qv post B A1 a) (vx_X px BX AX) free) (hS : va_S A0 H0 H locs) (hA : ∀ q, q < H.size → A1 q → A0 q) (hf : ∀ q, free q → A0 q) (hAX : ∀ q, q < H.size → AX q → A0 q)
    (kx : ∀ (E : String) (ce : Cell) (q9 : Addr) (u : SX) (t : State) (H1 : Heap) (locs1 : List Loc), t.heap = H1 → s.vm.Alike t.vm → px u → BX E u t → H.size ≤ H1.size → (∀ q : Nat, q < H.size → ¬ AX q → H1[q]? = H[q]?) → va_S A0 H0 H1 locs1 → H1[q9]? = some ce → ce.vm = .none → s.vm.findClass E = some ce.cls → vx_W p l e R s m args below meth c H1 locs1 (cells + mc) (slots + ms) Q (F0 m pc ls rest) q9)
    (kk : ∀ (u : S) (t : State) (H1 : Heap) (locs1 : List Loc), t.heap = H1 → s.vm.Alike t.vm → post u → B u t → H.size ≤ H1.size → (∀ q : Nat, q < H.size → ¬ A1 q → H1[q]? = H[q]?) → va_S A0 H0 H1 locs1 → W p l e R s m args below meth c H1 locs1 (cells + mc) (slots + ms) Q (F0 m (pc + 3) ls (rest))) : W p l e R s m args below meth c H locs cells slots Q (F0 m pc ls st0) := by
  intro T hT X
  rcases hr T hT X with ⟨v, st₀, t, T', L, h0, X', hL, e1, e2, ⟨⟨u, hv, hp, hb⟩, hF⟩, st⟩ | ⟨q, st₀, t, T', L, E, ce, h0, X', hL, e1, e2, ⟨u, hp, hb, hF⟩, hce, hcv, hcl, st⟩
  · cases hv
    obtain ⟨k1, k2, k3⟩ := vx_keep h0 e1 hS hA hf hL hF
    obtain ⟨t2, a1, b1⟩ := kk u t T'.heap (locs ++ L) e1.symm (by rw [← e2]; exact X'.warmed.alike) hp hb k1 k2 k3 T' rfl X'
    exact ⟨t2, st t2 a1, b1⟩
  · obtain ⟨k1, k2, k3⟩ := vx_keep h0 e1 hS hAX hf hL hF
    obtain ⟨t2, a1, b1⟩ := kx E ce q u t T'.heap (locs ++ L) e1.symm (by rw [← e2]; exact X'.warmed.alike) hp hb k1 k2 k3 (by rw [e1]; exact hce) hcv hcl T' rfl X'
    exact ⟨t2, st.trans a1, b1⟩
/-- caught by the row x of this method's table; the rows ahead don't take it -/
theorem vx_catch {own name : String} {E : String} {ce : Cell} {q : Addr} (hown : s.vm.findClass own = some m.cls) (pre : List ExceptionTableEntry) (x : ExceptionTableEntry) (suf : List ExceptionTableEntry) (hsplit : c.exceptionTable.toList = pre ++ x :: suf)
    (hpass : ∀ z ∈ pre, covers z pc = false ∨ (z.catchType ≠ 0 ∧ ∃ nm : String, (Cond.classLink own z.catchType nm).before args s = true ∧ va_Nc E nm s)) (hx : covers x pc = true) (h0 : x.catchType ≠ 0)
    (hlink : (Cond.classLink own x.catchType name).before args s = true) (hcast : (Cond.castable E name).before args s = true) (hcell : H[q]? = some ce) (hv : ce.vm = .none) (hcl : s.vm.findClass E = some ce.cls)
    (kk : W p l e R s m args below meth c H locs cells slots Q (F0 m x.handlerPc ls [.ref q])) : vx_W p l e R s m args below meth c H locs cells slots Q (F0 m pc ls rest) q := by
  intro T hT X
  have hpl : e.platform.magicAccessors = ({} : Platform).magicAccessors := by rw [X.admits.platform]
  obtain ⟨c3, c4, hc3, hc4, hasg⟩ := Cond.castable_spec hcast
  cases Option.some.inj (hc3.symm.trans hcl)
  obtain ⟨c5, hc5, hcl5⟩ := Cond.classLink_spec hown hlink e.platform hpl
  cases Option.some.inj (hc4.symm.trans hc5)
  obtain ⟨vm', X', st⟩ := X.thenCaughtThrough q (g := F0 m pc ls rest) rfl (Steps.refl _) (by rw [hT]; exact hcell) (by rw [hv]; rfl) (by obtain ⟨k9, h9, -⟩ := Vm.findClass_spec hcl; exact ⟨k9, h9⟩) pre x suf hsplit
    (fun z hz => by
      rcases hpass z hz with h | ⟨hz0, nm, hl1, hn1⟩
      · exact Or.inl h
      · obtain ⟨c6, hc6, hcl6⟩ := Cond.classLink_spec hown hl1 e.platform hpl
        obtain ⟨a8, b8, h1, h2, h3⟩ := hn1
        cases Option.some.inj (h1.symm.trans hcl)
        cases Option.some.inj (h2.symm.trans hc6)
        exact Or.inr ⟨hz0, _, hcl6, h3⟩) hx (Or.inr ⟨h0, c4, hcl5, hasg⟩)
  obtain ⟨t, a1, b1⟩ := kk (T.setVm vm') hT X'
  exact ⟨t, st.trans a1, b1⟩
end Rows
section Ends
variable {p : Program} {l : Launch} {e : Env} {R : Room} {s : State} {m : MethodId} {args : Array Value} {below : List Frame} {meth : Method} {c : Code} {H : Heap} {locs : List Loc} {cells slots : Nat} {Q : State → Prop}
variable {mc ms : Nat} {free : Addr → Prop} {A0 A1 : Nat → Prop} {H0 : Heap} {a : Array Value} {ls : Array Slot} {st0 rest : List Value}
variable {Qc : Array Value → State → Outcome → State → Prop} {XC : String → State → State → Prop}
/-- what a body that may throw owes at its end -/
def vx_MQ (below : List Frame) (Qc : Array Value → State → Outcome → State → Prop) (XC : String → State → State → Prop) (a : Array Value) (s : State) (mc ms : Nat) (free : Addr → Prop) : State → Prop := fun t =>
  ∃ o, t.status = .running ∧ Ended t below o ∧ vx_Q Qc XC mc ms free a s o t
theorem vx_ret {g : JFrame} {mc ms : Nat} (k : W p l e R s m args below meth c H locs cells slots (MQ below Qc args s mc ms free) g) : W p l e R s m args below meth c H locs cells slots (vx_MQ below Qc XC args s mc ms free) g := by
  intro T hT X
  obtain ⟨t, a1, o, b1, b2, b3, b4⟩ := k T hT X
  exact ⟨t, a1, o, b1, b2, Or.inl ⟨b3, b4⟩⟩
/-- not caught here: it goes on to the caller -/
theorem vx_widen {g : JFrame} {q : Addr} {k n : Nat} (h1 : cells ≤ k) (h2 : slots ≤ n) (kk : vx_W p l e R s m args below meth c H locs k n Q g q) : vx_W p l e R s m args below meth c H locs cells slots Q g q := fun T hT X => kk T hT (stand_widen X h1 h2)
theorem vx_out {pc : Nat} {E : String} {ce : Cell} {q : Addr} {mc ms : Nat} (hout : ∀ x ∈ c.exceptionTable.toList, covers x pc = false) (hlocks : meth.locks = false) (hcell : H[q]? = some ce) (hv : ce.vm = .none) (hcl : s.vm.findClass E = some ce.cls)
    (hx : ∀ t : State, t.heap = H → s.vm.Alike t.vm → XC E s t) (hf : ∀ z ∈ locs, free z.base) (hc : cells ≤ mc) (hs : slots ≤ ms) :
    vx_W p l e R s m args below meth c H locs cells slots (vx_MQ below Qc XC args s mc ms free) (F0 m pc ls rest) q := by
  intro T hT X
  obtain ⟨st1, hrun, hend, hW, hsm⟩ := X.leaveThrown q (g := F0 m pc ls rest) rfl rfl rfl hout hlocks
  have hcell9 : (T.setFrames (.throwing q :: below)).heap[q]? = some ce := by
    show T.heap[q]? = some ce
    rw [hT]; exact hcell
  exact ⟨_, st1, .threw q, hrun, hend, Or.inr ⟨q, rfl, E, ce, locs, hx _ hT hW.alike, hcell9, hv, hcl, hW, hsm.mono hc hs, hf⟩⟩
theorem vx_frame {U : State} {k n : Nat} (h : s.sameButNew ({ U with vm := s.vm } : State) locs k n) : s.heap.size ≤ U.heap.size ∧ ∀ q : Nat, q < s.heap.size → (∀ z ∈ locs, z.base ≠ q) → U.heap[q]? = s.heap[q]? := by
  obtain ⟨-, h2, -, -, -, h6⟩ := h
  refine ⟨h2, fun q hq hz => ?_⟩
  obtain ⟨c9, e1, e2, e3, e4⟩ := h6 q _ (Array.getElem?_eq_getElem hq)
  have hs : c9.slots = (s.heap[q]).slots := Array.ext_getElem? fun i => e4 i fun hm => hz _ hm rfl
  have h9 : c9 = s.heap[q] := by
    rw [hs] at e2
    exact e2
  have e5 : U.heap[q]? = some c9 := e1
  rw [e5, h9, Array.getElem?_eq_getElem hq]
/-- the words of a throw but the four that speak of the heap -/
def vx_no (w : Cond) : Bool := decide (w ≠ .isRef (.static Bundle.tN "UNASSIGNED_STACK" Bundle.steD)) && decide (w ≠ .isRef (.static Bundle.tN "SUPPRESSED_SENTINEL" Bundle.listD)) && decide (w ≠ .laysStatic Bundle.tN "UNASSIGNED_STACK" Bundle.steD) && decide (w ≠ .laysStatic Bundle.tN "SUPPRESSED_SENTINEL" Bundle.listD)
def vx_at0 (own : String) (ic : Nat) (X : String) (names : List String) : List Cond := (Bundle.ownAtoms0 own ic X names).filter vx_no
def vx_atS (own : String) (ic : Nat) (X : String) (names : List String) : List Cond := (Bundle.ownAtoms own ic X names).filter vx_no
/-- a word that the tables alone decide, or a good one -/
def vx_ot (w : Cond) : Bool := w.onTables || goodWord w
theorem vx_ot_at {args a' : Array Value} {s U : State} {w : Cond} (hW : s.WarmedH U.vm) (hvm : s.vm = U.vm) (hg : vx_ot w = true) (h : w.before args s = true) : w.before a' U = true := by
  simp only [vx_ot, Bool.or_eq_true] at hg
  rcases hg with hg | hg
  · exact va_tabs hg hvm h
  · exact word_at hW (good_of_word hg) h
/-- a list's words: the good ones out of the method's own list, the others by premises of their own -/
theorem vx_hat {args : Array Value} {s : State} {L B : List Cond} (h1 : ∀ w ∈ L.filter goodWord, w.before args s = true) (h2 : ∀ w ∈ L.filter (fun w => !goodWord w), w ∈ B) (h3 : ∀ w ∈ B, w.before args s = true) : ∀ w ∈ L, w.before args s = true := by
  intro w hw
  by_cases g : goodWord w = true
  · exact h1 w (List.mem_filter.mpr ⟨hw, g⟩)
  · refine h3 w (h2 w (List.mem_filter.mpr ⟨hw, ?_⟩))
    show (!goodWord w) = true
    cases hgw : goodWord w
    · rfl
    · exact absurd hgw g
theorem vx_c {args : Array Value} {s : State} {w : Cond} {B : List Cond} (h : w.before args s = true) (t : ∀ w ∈ B, w.before args s = true) : ∀ w' ∈ w :: B, w'.before args s = true := fun w' h' => (List.mem_cons.mp h').elim (fun e => by rw [e]; exact h) (t w')
theorem vx_n {args : Array Value} {s : State} : ∀ w ∈ ([] : List Cond), w.before args s = true := fun _ h => nomatch h
theorem vx_own {args : Array Value} {s : State} {L : List Cond} (h1 : ∀ w ∈ L.filter vx_no, w.before args s = true)
    (hU : (Cond.isRef (.static Bundle.tN "UNASSIGNED_STACK" Bundle.steD)).before args s = true) (hN : (Cond.isRef (.static Bundle.tN "SUPPRESSED_SENTINEL" Bundle.listD)).before args s = true)
    (lU : (Cond.laysStatic Bundle.tN "UNASSIGNED_STACK" Bundle.steD).before args s = true) (lN : (Cond.laysStatic Bundle.tN "SUPPRESSED_SENTINEL" Bundle.listD).before args s = true) : ∀ w ∈ L, w.before args s = true := by
  intro w hw
  by_cases e1 : w = .isRef (.static Bundle.tN "UNASSIGNED_STACK" Bundle.steD)
  · rw [e1]; exact hU
  · by_cases e2 : w = .isRef (.static Bundle.tN "SUPPRESSED_SENTINEL" Bundle.listD)
    · rw [e2]; exact hN
    · by_cases e3 : w = .laysStatic Bundle.tN "UNASSIGNED_STACK" Bundle.steD
      · rw [e3]; exact lU
      · by_cases e4 : w = .laysStatic Bundle.tN "SUPPRESSED_SENTINEL" Bundle.listD
        · rw [e4]; exact lN
        · exact h1 w (List.mem_filter.mpr ⟨hw, by unfold vx_no; rw [decide_eq_true e1, decide_eq_true e2, decide_eq_true e3, decide_eq_true e4]; rfl⟩)
/-- where a static field lies, its class's statics cell in H -/
def vx_L (C n d : String) (A : Nat → Prop) (U : State) (H : Heap) : Prop := ∃ (c : ClassId) (k : Class) (i : Nat) (f : Field) (a : Nat) (cell : Cell), U.vm.findClass C = some c ∧ U.fieldFound? C n d = some (c, k, i, f) ∧ f.isStatic = true ∧ k.statics = some a ∧ H[a]? = some cell ∧ cell.vm.isStatics = true ∧ cell.cls = c ∧ f.slot < cell.slots.size ∧ k.staticTypes[f.slot]? = some f.type ∧ ¬ A a
theorem vx_L.moved {C n d : String} {A : Nat → Prop} {u U : State} {H : Heap} (hvm : u.vm.Alike U.vm) (h : vx_L C n d A u H) : vx_L C n d A U H := by
  obtain ⟨c, k, i, f, a, cell, h1, h2, h3, h4, h5, h6, h7, h8, h9, h10⟩ := h
  obtain ⟨k', hi', he⟩ := State.fieldFound?_setVm hvm h2
  exact ⟨c, k', i, f, a, cell, by rw [hvm.findClass]; exact h1, hi', h3, by rw [he]; exact h4, h5, h6, h7, h8, by rw [he]; exact h9, h10⟩
theorem vx_L.kept {C n d : String} {A : Nat → Prop} {U : State} {H H1 : Heap} (h : vx_L C n d A U H) (hq : ∀ a : Nat, a < H.size → ¬ A a → H1[a]? = H[a]?) : vx_L C n d A U H1 := by
  obtain ⟨c, k, i, f, a, cell, h1, h2, h3, h4, h5, h6, h7, h8, h9, h10⟩ := h
  exact ⟨c, k, i, f, a, cell, h1, h2, h3, h4, by rw [hq a (Array.getElem?_eq_some_iff.mp h5).1 h10]; exact h5, h6, h7, h8, h9, h10⟩
theorem vx_L.narrow {C n d : String} {A B : Nat → Prop} {U : State} {H : Heap} (h : vx_L C n d A U H) (hAB : ∀ q, B q → A q) : vx_L C n d B U H := by
  obtain ⟨c, k, i, f, a, cell, h1, h2, h3, h4, h5, h6, h7, h8, h9, h10⟩ := h
  exact ⟨c, k, i, f, a, cell, h1, h2, h3, h4, h5, h6, h7, h8, h9, fun z => h10 (hAB _ z)⟩
theorem vx_L.word {C n d : String} {A : Nat → Prop} {s : State} {args : Array Value} (h : vx_L C n d A s s.heap) : (Cond.laysStatic C n d).before args s = true := by
  obtain ⟨c, k, i, f, a, cell, h1, h2, h3, h4, h5, h6, h7, h8, h9, -⟩ := h
  show (Cond.laysStatic C n d).holds args s none s [] = true
  exact Cond.laysStatic_of h1 h2 h3 h4 h5 h6 h7 h8 h9
/-- .. and what it holds: null or some reference -/
def vx_Zq (C n d : String) (A : Nat → Prop) (U : State) (H : Heap) : Prop := va_Zq C n d A U H ∧ vx_L C n d A U H
theorem vx_Zq.moved {C n d : String} {A : Nat → Prop} {u U : State} {H : Heap} (hvm : u.vm.Alike U.vm) (h : vx_Zq C n d A u H) : vx_Zq C n d A U H := ⟨va_Zq.moved hvm h.1, vx_L.moved hvm h.2⟩
theorem vx_Zq.kept {C n d : String} {A : Nat → Prop} {U : State} {H H1 : Heap} (h : vx_Zq C n d A U H) (hq : ∀ a : Nat, a < H.size → ¬ A a → H1[a]? = H[a]?) : vx_Zq C n d A U H1 := ⟨va_Zq.kept h.1 hq, vx_L.kept h.2 hq⟩
theorem vx_Zq.narrow {C n d : String} {A B : Nat → Prop} {U : State} {H : Heap} (h : vx_Zq C n d A U H) (hAB : ∀ q, B q → A q) : vx_Zq C n d B U H := ⟨va_Zq.narrow h.1 hAB, vx_L.narrow h.2 hAB⟩
theorem vx_Zqof {args : Array Value} {s : State} {C n d : String} {A : Nat → Prop} (hl : (Cond.laysStatic C n d).before args s = true) (hini : (Cond.initialized C).before args s = true) (h : (Cond.isRef (.static C n d)).before args s = true) (hA : ∀ a : Nat, a < s.heap.size → ¬ A a) : vx_Zq C n d A s s.heap := by
  refine ⟨va_Zqof hl hini h hA, ?_⟩
  obtain ⟨c, k, i, f, a, cell, h1, h2, h3, h4, h5, h6, h7, h8, h9⟩ := Cond.laysStatic_spec hl
  exact ⟨c, k, i, f, a, cell, h1, h2, h3, h4, h5, h6, h7, h8, h9, hA a (Array.getElem?_eq_some_iff.mp h5).1⟩
theorem vx_isRef {C n d : String} {v : Value} {A : Nat → Prop} {s : State} {args : Array Value} (h : va_Z C n d v A s s.heap) (hv : v.isRef = true) : (Cond.isRef (.static C n d)).before args s = true := by
  obtain ⟨cf, kf, fi, f, a, cell, h1, h2, h3, h4, h5, h6, h7, -⟩ := h
  have he : (Term.static C n d).eval args s none [] s = some v := by
    simp [Term.eval, State.fieldNamed?, h1, h2, h4, h5, h6, h7]
  simp only [Cond.before, Cond.holds, Cond.value, he]
  cases v <;> simp_all [Value.isRef]
theorem vx_isRefq {C n d : String} {A : Nat → Prop} {s : State} {args : Array Value} (h : va_Zq C n d A s s.heap) : (Cond.isRef (.static C n d)).before args s = true := by
  rcases h with h | ⟨t, h⟩
  · exact vx_isRef h rfl
  · exact vx_isRef h rfl
/-- the same frame, seen from here: as if the method were called anew in this heap -/
theorem vx_rebase {T : State} (X : Stand p l e R s m args below meth c T locs cells slots) {R' : Room} (hf : R'.frames ≤ R.frames) (hl : R'.locals ≤ R.locals) (hc : cells + R'.cells ≤ R.cells) (hs : slots + R'.slots ≤ R.slots) :
    Stand p l e R' ((T.setVm s.vm).setFrames (.invoking m args :: below)) m args below meth c T [] 0 0 := by
  have htop : (T.setVm s.vm).topJava?.isSome := X.here.top
  have hF : ((T.setVm s.vm).setFrames (.invoking m args :: below)).frames = .invoking m args :: below := State.frames_setFrames _ (State.cur_lt_of_top htop)
  obtain ⟨g₀, hg0⟩ := Option.isSome_iff_exists.mp htop
  obtain ⟨r, hr⟩ := State.topJava?_eq_some.mp hg0
  have hl9 : e.platform.stackLimits (T.setVm s.vm).me = e.platform.stackLimits s.me := X.limits
  have hb9 : (T.setVm s.vm).me.stackBytes = s.me.stackBytes := X.bytes
  refine ⟨X.admits, X.cas, X.clock, hF, ?_, X.hears, X.method, X.code, X.here, X.tail, X.warmed, ?_, ?_, ?_⟩
  · have h := X.room
    have hU : ((T.setVm s.vm).setFrames (.invoking m args :: below)).localsInUse = s.localsInUse := by
      rw [State.localsInUse_invoking hF (meth := meth) (c := c) X.method X.code, State.localsInUse_invoking X.frames X.method X.code]
    simp only [State.hasRoom, Bool.and_eq_true, decide_eq_true_eq] at h ⊢
    obtain ⟨⟨⟨⟨h1, h2, h3, h4, h5, h6⟩, h7⟩, h8⟩, h9⟩ := h
    rw [X.frames, List.length_cons] at h2 h3
    have q1 := X.heapSize
    have q2 := X.used
    simp only [hF, hU, List.length_cons, State.stackLimits_setFrames, State.stackBytes_setFrames, hl9, hb9]
    refine ⟨⟨⟨⟨by omega, by omega, by omega, by omega, by omega, h6⟩, ?_⟩, ?_⟩, X.book⟩
    · show T.heap.size + R'.cells ≤ e.platform.maxCells
      omega
    · show T.slotsUsed + R'.slots ≤ e.platform.maxSlots
      omega
  · rw [State.stackLimits_setFrames]; rfl
  · rw [State.stackBytes_setFrames]; rfl
  · refine ⟨?_, Nat.le_refl _, Nat.le_refl _, ?_, ?_, fun a c9 h9 => ⟨c9, h9, rfl, rfl, fun _ _ => rfl⟩⟩
    · obtain ⟨t, ht, -⟩ := State.frames_cons hr
      show T.setVm s.vm = { ((T.setVm s.vm).setFrames (.invoking m args :: below)).setFrames (T.setVm s.vm).frames with heap := T.heap, slotsUsed := T.slotsUsed }
      rw [State.setFrames_setFrames, State.setFrames_self ht]
      rfl
    · show T.slotsUsed = T.slotsUsed + ((T.heap.toList.drop T.heap.size).map (·.slots.size)).sum
      rw [List.drop_eq_nil_of_le (Nat.le_of_eq Array.length_toList)]
      rfl
    · show ((T.heap.toList.drop T.heap.size).map (·.slots.size)).sum ≤ 0
      rw [List.drop_eq_nil_of_le (Nat.le_of_eq Array.length_toList)]
      exact Nat.le_refl _
/-- 'throw new E()': new; dup; invokespecial; athrow -/
theorem vx_throw0 {cc : ByteArray} {pc : Nat} (hexec : p.tables.exec = Jvm.exec) (hb : c.code = cc) (hl : l.stackTraces = false) {own cls : String} {names : List String} {ik ic mc ms : Nat} {A : Nat → Prop}
    (hown : s.vm.findClass own = some m.cls) (hcls : Bundle.fit cls = true) (hnames : ∀ n ∈ names, Bundle.fit n = true)
    (hk : (Cond.classLink own ik cls).before args s = true) (hini : (Cond.initialized cls).before args s = true) (hat : ∀ w ∈ vx_at0 own ic cls names, w.before args s = true)
    (hgood : ∀ w ∈ Cond.classLink own ik cls :: Cond.initialized cls :: vx_at0 own ic cls names, vx_ot w = true)
    (hU : vx_Zq Bundle.tN "UNASSIGNED_STACK" Bundle.steD A s s.heap) (hN : vx_Zq Bundle.tN "SUPPRESSED_SENTINEL" Bundle.listD A s s.heap) (hS : va_S A s.heap H locs) (hsize : ls.size = c.maxLocals)
    (d0 : decode cc pc = .ok (.new ik, 3)) (d3 : decode cc (pc + 3) = .ok (.dup, 1)) (d4 : decode cc (pc + 4) = .ok (.invokespecial ic, 3)) (d7 : decode cc (pc + 7) = .ok (.athrow, 1))
    (hout : ∀ x ∈ c.exceptionTable.toList, covers x (pc + 7) = false)
    (hRframes : names.length + 3 < R.frames) (hRlocals : (rest.map fun v => v.category).sum + (13 * (names.length + 1) + 42) ≤ R.locals) (hRcells : cells + 1 ≤ R.cells) (hRslots : slots + 6 ≤ R.slots) (hlocks : meth.locks = false)
    (hx : ∀ t : State, s.vm.Alike t.vm → H.size ≤ t.heap.size → (∀ q : Nat, q < H.size → t.heap[q]? = H[q]?) → XC cls s t)
    (hf : ∀ z ∈ locs, free z.base) (hc : cells + 1 ≤ mc) (hs : slots + 6 ≤ ms) :
    W p l e R s m args below meth c H locs cells slots (vx_MQ below Qc XC args s mc ms free) (F0 m pc ls rest) := by
  intro T hT X
  have htr : e.platform.stackTraces = false := (show e.platform.stackTraces = l.stackTraces by rw [X.admits.platform]).trans hl
  have Y := vx_rebase X (R' := { frames := R.frames, locals := R.locals, cells := 1, slots := 6 }) (Nat.le_refl _) (Nat.le_refl _) hRcells hRslots
  obtain ⟨s', hA⟩ : ∃ z, z = (T.setVm s.vm).setFrames (.invoking m args :: below) := ⟨_, rfl⟩
  rw [← hA] at Y
  have hvm : s'.vm = s.vm := by rw [hA]; rfl
  have hhp : s'.heap = H := by rw [hA]; exact hT
  have hW0 : s.WarmedH s'.vm := by rw [hvm]; exact State.WarmedH.refl s
  have hat' : ∀ w ∈ vx_at0 own ic cls names, w.before args s' = true := fun w hw => vx_ot_at hW0 hvm.symm (hgood w (List.mem_cons_of_mem _ (List.mem_cons_of_mem _ hw))) (hat w hw)
  have hk' : (Cond.classLink own ik cls).before args s' = true := vx_ot_at hW0 hvm.symm (hgood _ List.mem_cons_self) hk
  have hini' : (Cond.initialized cls).before args s' = true := vx_ot_at hW0 hvm.symm (hgood _ (List.mem_cons_of_mem _ List.mem_cons_self)) hini
  have hU' : vx_Zq Bundle.tN "UNASSIGNED_STACK" Bundle.steD A s' s'.heap := by rw [hhp]; exact vx_Zq.moved hW0.alike (hU.kept hS.2.1)
  have hN' : vx_Zq Bundle.tN "SUPPRESSED_SENTINEL" Bundle.listD A s' s'.heap := by rw [hhp]; exact vx_Zq.moved hW0.alike (hN.kept hS.2.1)
  have h : ∀ w ∈ Bundle.ownAtoms0 own ic cls names, w.before args s' = true := vx_own hat' (vx_isRefq hU'.1) (vx_isRefq hN'.1) hU'.2.word hN'.2.word
  have hown' : s'.vm.findClass own = some m.cls := by rw [hvm]; exact hown
  have hins : (Cond.instantiable cls 6).before args s' = true := h _ (by simp [Bundle.ownAtoms0])
  obtain ⟨vm₁, cX, kX, hfX, hkX, -, -, X₁, st1⟩ := Y.newCold hexec (own := own) (C := cls) (index := ik) (n := 6) hown' hk' hins hini'
    (g := F0 m pc ls rest) rfl (by rw [hb]; exact d0) (Nat.le_refl _) (Nat.le_refl _)
  generalize hT1 : (T.setVm vm₁).pushCell { cls := cX, slots := kX.instanceTypes.map defaultValue, vm := .none } = T1 at X₁ st1
  have hcat : (Value.ref T.heap.size).category = 1 := rfl
  have hcellA : T1.heap[T.heap.size]? = some (freshCell cX kX) := by rw [← hT1]; exact State.heap_pushCell_size _ _
  have d3' : decode c.code (pc + 3) = .ok (.dup, 1) := by rw [hb]; exact d3
  obtain ⟨U, hsteps, hrun, hend, hW, hsame, ce, hce, hO⟩ := X₁.ctorThrow0 hexec htr (own := own) (cls := cls) (names := names) (ic := ic) hown' hcls hnames h (fun x hx => nomatch hx) hfX hkX hcellA (by rw [hhp, hT]; exact Nat.le_refl _)
    (g := { method := m, pc := pc + 4, locals := ls, stack := .ref T.heap.size :: .ref T.heap.size :: rest, locked := none }) rfl hsize rfl rfl (rest := rest) rfl
    (by rw [hb]; exact d4) (by rw [hb]; exact d7) hout hRframes (by simp only [List.map_cons, List.sum_cons, hcat]; omega) hlocks
  obtain ⟨f1, f2⟩ := vx_frame hsame
  rw [hhp] at f1 f2
  have hWs : s.WarmedH U.vm := State.WarmedH.trans hW0 hW
  have hcl : s.vm.findClass cls = some ce.cls := by
    have h9 := hO.cls
    rw [hvm] at h9
    exact h9
  have hall : s.sameButNew ({ U with vm := s.vm } : State) locs mc ms := by
    subst hA
    obtain ⟨e1, e2⟩ := hsame
    rw [State.setFrames_setFrames] at e1
    have h2 : (T.setVm s.vm).sameButNew ({ U with vm := s.vm } : State) [] (0 + 1) (0 + 6) := ⟨e1, e2⟩
    have h3 := X.same.trans h2
    rw [List.append_nil] at h3
    exact h3.mono hc hs
  refine ⟨U, ?_, .threw T.heap.size, hrun, hend, Or.inr ⟨T.heap.size, rfl, cls, ce, locs, hx U hWs.alike f1 (fun q hq => f2 q hq (fun z hz => nomatch hz)), hce, hO.vm, hcl, hWs, hall, hf⟩⟩
  refine st1 _ ?_
  show Steps p.tables e below (T1.setTop { method := m, pc := pc + 3, locals := ls, stack := .ref T.heap.size :: rest, locked := none }) _
  jvm_step X₁.here [X₁.here.top, hexec, d3', Value.category]
  exact hsteps
/-- 'throw new E("text")': new; dup; ldc; invokespecial; athrow -/
theorem vx_throwS {cc : ByteArray} {pc : Nat} (hexec : p.tables.exec = Jvm.exec) (hb : c.code = cc) (hl : l.stackTraces = false) {own cls text : String} {names : List String} {ik is ic mc ms sa : Nat} {A : Nat → Prop}
    (hown : s.vm.findClass own = some m.cls) (hcls : Bundle.fit cls = true) (hnames : ∀ n ∈ names, Bundle.fit n = true)
    (hk : (Cond.classLink own ik cls).before args s = true) (hini : (Cond.initialized cls).before args s = true) (hstr : vk_R own is text sa s) (hat : ∀ w ∈ vx_atS own ic cls names, w.before args s = true)
    (hgood : ∀ w ∈ Cond.classLink own ik cls :: Cond.initialized cls :: vx_atS own ic cls names, vx_ot w = true)
    (hU : vx_Zq Bundle.tN "UNASSIGNED_STACK" Bundle.steD A s s.heap) (hN : vx_Zq Bundle.tN "SUPPRESSED_SENTINEL" Bundle.listD A s s.heap) (hS : va_S A s.heap H locs) (hsize : ls.size = c.maxLocals)
    (d0 : decode cc pc = .ok (.new ik, 3)) (d3 : decode cc (pc + 3) = .ok (.dup, 1)) (d4 : decode cc (pc + 4) = .ok (.ldc is, 2)) (d6 : decode cc (pc + 6) = .ok (.invokespecial ic, 3)) (d9 : decode cc (pc + 9) = .ok (.athrow, 1))
    (hout : ∀ x ∈ c.exceptionTable.toList, covers x (pc + 9) = false)
    (hRframes : names.length + 3 < R.frames) (hRlocals : (rest.map fun v => v.category).sum + (13 * (names.length + 1) + 43) ≤ R.locals) (hRcells : cells + 1 ≤ R.cells) (hRslots : slots + 6 ≤ R.slots) (hlocks : meth.locks = false)
    (hx : ∀ t : State, s.vm.Alike t.vm → H.size ≤ t.heap.size → (∀ q : Nat, q < H.size → t.heap[q]? = H[q]?) → XC cls s t)
    (hf : ∀ z ∈ locs, free z.base) (hc : cells + 1 ≤ mc) (hs : slots + 6 ≤ ms) :
    W p l e R s m args below meth c H locs cells slots (vx_MQ below Qc XC args s mc ms free) (F0 m pc ls rest) := by
  intro T hT X
  have htr : e.platform.stackTraces = false := (show e.platform.stackTraces = l.stackTraces by rw [X.admits.platform]).trans hl
  have Y := vx_rebase X (R' := { frames := R.frames, locals := R.locals, cells := 1, slots := 6 }) (Nat.le_refl _) (Nat.le_refl _) hRcells hRslots
  obtain ⟨s', hA⟩ : ∃ z, z = (T.setVm s.vm).setFrames (.invoking m args :: below) := ⟨_, rfl⟩
  rw [← hA] at Y
  have hvm : s'.vm = s.vm := by rw [hA]; rfl
  have hhp : s'.heap = H := by rw [hA]; exact hT
  have hW0 : s.WarmedH s'.vm := by rw [hvm]; exact State.WarmedH.refl s
  have hat' : ∀ w ∈ vx_atS own ic cls names, w.before args s' = true := fun w hw => vx_ot_at hW0 hvm.symm (hgood w (List.mem_cons_of_mem _ (List.mem_cons_of_mem _ hw))) (hat w hw)
  have hk' : (Cond.classLink own ik cls).before args s' = true := vx_ot_at hW0 hvm.symm (hgood _ List.mem_cons_self) hk
  have hini' : (Cond.initialized cls).before args s' = true := vx_ot_at hW0 hvm.symm (hgood _ (List.mem_cons_of_mem _ List.mem_cons_self)) hini
  have hU' : vx_Zq Bundle.tN "UNASSIGNED_STACK" Bundle.steD A s' s'.heap := by rw [hhp]; exact vx_Zq.moved hW0.alike (hU.kept hS.2.1)
  have hN' : vx_Zq Bundle.tN "SUPPRESSED_SENTINEL" Bundle.listD A s' s'.heap := by rw [hhp]; exact vx_Zq.moved hW0.alike (hN.kept hS.2.1)
  have h : ∀ w ∈ Bundle.ownAtoms own ic cls names, w.before args s' = true := vx_own hat' (vx_isRefq hU'.1) (vx_isRefq hN'.1) hU'.2.word hN'.2.word
  have hown' : s'.vm.findClass own = some m.cls := by rw [hvm]; exact hown
  have hins : (Cond.instantiable cls 6).before args s' = true := h _ (by simp [Bundle.ownAtoms])
  obtain ⟨vm₁, cX, kX, hfX, hkX, -, -, X₁, st1⟩ := Y.newCold hexec (own := own) (C := cls) (index := ik) (n := 6) hown' hk' hins hini'
    (g := F0 m pc ls rest) rfl (by rw [hb]; exact d0) (Nat.le_refl _) (Nat.le_refl _)
  generalize hT1 : (T.setVm vm₁).pushCell { cls := cX, slots := kX.instanceTypes.map defaultValue, vm := .none } = T1 at X₁ st1
  have hcat : (Value.ref T.heap.size).category = 1 := rfl
  have hcellA : T1.heap[T.heap.size]? = some (freshCell cX kX) := by rw [← hT1]; exact State.heap_pushCell_size _ _
  have d3' : decode c.code (pc + 3) = .ok (.dup, 1) := by rw [hb]; exact d3
  have d4' : decode c.code (pc + 4) = .ok (.ldc is, 2) := by rw [hb]; exact d4
  have hstr' : vk_R own is text sa s' := vk_R.warm hW0 hstr
  obtain ⟨U, hsteps, hrun, hend, hW, hsame, ce, hce, hO⟩ := X₁.ctorThrowS hexec htr (own := own) (cls := cls) (names := names) (ic := ic) hown' hcls hnames h (fun x hx => nomatch hx) hfX hkX hcellA (by rw [hhp, hT]; exact Nat.le_refl _) (msg := .ref sa) rfl
    (g := { method := m, pc := pc + 6, locals := ls, stack := .ref sa :: .ref T.heap.size :: .ref T.heap.size :: rest, locked := none }) rfl hsize rfl rfl (rest := rest) rfl
    (by rw [hb]; exact d6) (by rw [hb]; exact d9) hout hRframes (by simp only [List.map_cons, List.sum_cons, hcat]; omega) hlocks
  obtain ⟨f1, f2⟩ := vx_frame hsame
  rw [hhp] at f1 f2
  have hWs : s.WarmedH U.vm := State.WarmedH.trans hW0 hW
  have hcl : s.vm.findClass cls = some ce.cls := by
    have h9 := hO.cls
    rw [hvm] at h9
    exact h9
  have hall : s.sameButNew ({ U with vm := s.vm } : State) locs mc ms := by
    subst hA
    obtain ⟨e1, e2⟩ := hsame
    rw [State.setFrames_setFrames] at e1
    have h2 : (T.setVm s.vm).sameButNew ({ U with vm := s.vm } : State) [] (0 + 1) (0 + 6) := ⟨e1, e2⟩
    have h3 := X.same.trans h2
    rw [List.append_nil] at h3
    exact h3.mono hc hs
  refine ⟨U, ?_, .threw T.heap.size, hrun, hend, Or.inr ⟨T.heap.size, rfl, cls, ce, locs, hx U hWs.alike f1 (fun q hq => f2 q hq (fun z hz => nomatch hz)), hce, hO.vm, hcl, hWs, hall, hf⟩⟩
  refine st1 _ ?_
  show Steps p.tables e below (T1.setTop { method := m, pc := pc + 3, locals := ls, stack := .ref T.heap.size :: rest, locked := none }) _
  jvm_step X₁.here [X₁.here.top, hexec, d3', Value.category]
  exact X₁.ldcString hexec (own := own) (text := text) (index := is) (a := sa) hown' hstr'.1 hstr'.2
    (g := { method := m, pc := pc + 4, locals := ls, stack := .ref T.heap.size :: .ref T.heap.size :: rest, locked := none }) rfl d4' _ hsteps
/-- 'throw new E("text")', the text by a wide index -/
theorem vx_throwSW {cc : ByteArray} {pc : Nat} (hexec : p.tables.exec = Jvm.exec) (hb : c.code = cc) (hl : l.stackTraces = false) {own cls text : String} {names : List String} {ik is ic mc ms sa : Nat} {A : Nat → Prop}
    (hown : s.vm.findClass own = some m.cls) (hcls : Bundle.fit cls = true) (hnames : ∀ n ∈ names, Bundle.fit n = true)
    (hk : (Cond.classLink own ik cls).before args s = true) (hini : (Cond.initialized cls).before args s = true) (hstr : vk_R own is text sa s) (hat : ∀ w ∈ vx_atS own ic cls names, w.before args s = true)
    (hgood : ∀ w ∈ Cond.classLink own ik cls :: Cond.initialized cls :: vx_atS own ic cls names, vx_ot w = true)
    (hU : vx_Zq Bundle.tN "UNASSIGNED_STACK" Bundle.steD A s s.heap) (hN : vx_Zq Bundle.tN "SUPPRESSED_SENTINEL" Bundle.listD A s s.heap) (hS : va_S A s.heap H locs) (hsize : ls.size = c.maxLocals)
    (d0 : decode cc pc = .ok (.new ik, 3)) (d3 : decode cc (pc + 3) = .ok (.dup, 1)) (d4 : decode cc (pc + 4) = .ok (.ldc_w is, 3)) (d7 : decode cc (pc + 7) = .ok (.invokespecial ic, 3)) (d10 : decode cc (pc + 10) = .ok (.athrow, 1))
    (hout : ∀ x ∈ c.exceptionTable.toList, covers x (pc + 10) = false)
    (hRframes : names.length + 3 < R.frames) (hRlocals : (rest.map fun v => v.category).sum + (13 * (names.length + 1) + 43) ≤ R.locals) (hRcells : cells + 1 ≤ R.cells) (hRslots : slots + 6 ≤ R.slots) (hlocks : meth.locks = false)
    (hx : ∀ t : State, s.vm.Alike t.vm → H.size ≤ t.heap.size → (∀ q : Nat, q < H.size → t.heap[q]? = H[q]?) → XC cls s t)
    (hf : ∀ z ∈ locs, free z.base) (hc : cells + 1 ≤ mc) (hs : slots + 6 ≤ ms) :
    W p l e R s m args below meth c H locs cells slots (vx_MQ below Qc XC args s mc ms free) (F0 m pc ls rest) := by
  intro T hT X
  have htr : e.platform.stackTraces = false := (show e.platform.stackTraces = l.stackTraces by rw [X.admits.platform]).trans hl
  have Y := vx_rebase X (R' := { frames := R.frames, locals := R.locals, cells := 1, slots := 6 }) (Nat.le_refl _) (Nat.le_refl _) hRcells hRslots
  obtain ⟨s', hA⟩ : ∃ z, z = (T.setVm s.vm).setFrames (.invoking m args :: below) := ⟨_, rfl⟩
  rw [← hA] at Y
  have hvm : s'.vm = s.vm := by rw [hA]; rfl
  have hhp : s'.heap = H := by rw [hA]; exact hT
  have hW0 : s.WarmedH s'.vm := by rw [hvm]; exact State.WarmedH.refl s
  have hat' : ∀ w ∈ vx_atS own ic cls names, w.before args s' = true := fun w hw => vx_ot_at hW0 hvm.symm (hgood w (List.mem_cons_of_mem _ (List.mem_cons_of_mem _ hw))) (hat w hw)
  have hk' : (Cond.classLink own ik cls).before args s' = true := vx_ot_at hW0 hvm.symm (hgood _ List.mem_cons_self) hk
  have hini' : (Cond.initialized cls).before args s' = true := vx_ot_at hW0 hvm.symm (hgood _ (List.mem_cons_of_mem _ List.mem_cons_self)) hini
  have hU' : vx_Zq Bundle.tN "UNASSIGNED_STACK" Bundle.steD A s' s'.heap := by rw [hhp]; exact vx_Zq.moved hW0.alike (hU.kept hS.2.1)
  have hN' : vx_Zq Bundle.tN "SUPPRESSED_SENTINEL" Bundle.listD A s' s'.heap := by rw [hhp]; exact vx_Zq.moved hW0.alike (hN.kept hS.2.1)
  have h : ∀ w ∈ Bundle.ownAtoms own ic cls names, w.before args s' = true := vx_own hat' (vx_isRefq hU'.1) (vx_isRefq hN'.1) hU'.2.word hN'.2.word
  have hown' : s'.vm.findClass own = some m.cls := by rw [hvm]; exact hown
  have hins : (Cond.instantiable cls 6).before args s' = true := h _ (by simp [Bundle.ownAtoms])
  obtain ⟨vm₁, cX, kX, hfX, hkX, -, -, X₁, st1⟩ := Y.newCold hexec (own := own) (C := cls) (index := ik) (n := 6) hown' hk' hins hini'
    (g := F0 m pc ls rest) rfl (by rw [hb]; exact d0) (Nat.le_refl _) (Nat.le_refl _)
  generalize hT1 : (T.setVm vm₁).pushCell { cls := cX, slots := kX.instanceTypes.map defaultValue, vm := .none } = T1 at X₁ st1
  have hcat : (Value.ref T.heap.size).category = 1 := rfl
  have hcellA : T1.heap[T.heap.size]? = some (freshCell cX kX) := by rw [← hT1]; exact State.heap_pushCell_size _ _
  have d3' : decode c.code (pc + 3) = .ok (.dup, 1) := by rw [hb]; exact d3
  have d4' : decode c.code (pc + 4) = .ok (.ldc_w is, 3) := by rw [hb]; exact d4
  have hstr' : vk_R own is text sa s' := vk_R.warm hW0 hstr
  obtain ⟨U, hsteps, hrun, hend, hW, hsame, ce, hce, hO⟩ := X₁.ctorThrowS hexec htr (own := own) (cls := cls) (names := names) (ic := ic) hown' hcls hnames h (fun x hx => nomatch hx) hfX hkX hcellA (by rw [hhp, hT]; exact Nat.le_refl _) (msg := .ref sa) rfl
    (g := { method := m, pc := pc + 7, locals := ls, stack := .ref sa :: .ref T.heap.size :: .ref T.heap.size :: rest, locked := none }) rfl hsize rfl rfl (rest := rest) rfl
    (by rw [hb]; exact d7) (by rw [hb]; exact d10) hout hRframes (by simp only [List.map_cons, List.sum_cons, hcat]; omega) hlocks
  obtain ⟨f1, f2⟩ := vx_frame hsame
  rw [hhp] at f1 f2
  have hWs : s.WarmedH U.vm := State.WarmedH.trans hW0 hW
  have hcl : s.vm.findClass cls = some ce.cls := by
    have h9 := hO.cls
    rw [hvm] at h9
    exact h9
  have hall : s.sameButNew ({ U with vm := s.vm } : State) locs mc ms := by
    subst hA
    obtain ⟨e1, e2⟩ := hsame
    rw [State.setFrames_setFrames] at e1
    have h2 : (T.setVm s.vm).sameButNew ({ U with vm := s.vm } : State) [] (0 + 1) (0 + 6) := ⟨e1, e2⟩
    have h3 := X.same.trans h2
    rw [List.append_nil] at h3
    exact h3.mono hc hs
  refine ⟨U, ?_, .threw T.heap.size, hrun, hend, Or.inr ⟨T.heap.size, rfl, cls, ce, locs, hx U hWs.alike f1 (fun q hq => f2 q hq (fun z hz => nomatch hz)), hce, hO.vm, hcl, hWs, hall, hf⟩⟩
  refine st1 _ ?_
  show Steps p.tables e below (T1.setTop { method := m, pc := pc + 3, locals := ls, stack := .ref T.heap.size :: rest, locked := none }) _
  jvm_step X₁.here [X₁.here.top, hexec, d3', Value.category]
  exact X₁.ldcStringW hexec (own := own) (text := text) (index := is) (a := sa) hown' hstr'.1 hstr'.2
    (g := { method := m, pc := pc + 4, locals := ls, stack := .ref T.heap.size :: .ref T.heap.size :: rest, locked := none }) rfl d4' _ hsteps
end Ends
section Bodies
variable {l : Launch}
theorem vx_ofW {y : MethodName} {ws ws' : List Cond} {rm : Room} {Pc : Array Value → State → Prop} {Qc : Array Value → State → Outcome → State → Prop} {XC : String → State → State → Prop} {mc ms : Nat} {free : Addr → Prop} {cc : ByteArray} {maxL : Nat} {ret : Option FieldType}
    (hy : plainName y.cls = true) (hw : ws = Cond.code y cc maxL ret :: ws')
    (body : ∀ p e s m args below meth c s₁, BodyLoose p l y (headSpec ws rm) cc maxL ret e s m args below meth c s₁ → c.maxLocals = maxL → (∀ x ∈ c.exceptionTable.toList, False) → Pc args s →
      W p l e (headSpec ws rm).room s m args below meth c s.heap [] 0 0 (vx_MQ below Qc XC args s mc ms free) (entryFrame m args maxL)) : vx_Met l y ws rm Pc Qc XC mc ms free := by
  refine MetFree.of_bodyS (code := cc) (maxLocals := maxL) (ret := ret) hy ?_ ?_
  · intro args s m h hn
    obtain ⟨meth, c, h1, h2, h3, h4, h5, h6, -, -⟩ := Cond.code_spec hn (atoms_spec (ws := ws) h _ (by rw [hw]; exact List.mem_cons_self))
    exact ⟨meth, c, h1, h2, h3, h4, h5, h6⟩
  · intro p e s m args below meth c s₁ B hml hP _
    have hh0 : s₁.heap = s.heap := by rw [B.state]; rfl
    have ht : ∀ x ∈ c.exceptionTable.toList, False := by
      obtain ⟨meth9, c9, h1, h2, -, -, -, -, h7, -⟩ := Cond.code_spec B.named (atoms_spec (ws := ws) B.pre _ (by rw [hw]; exact List.mem_cons_self))
      cases Option.some.inj (h1.symm.trans B.method)
      cases Option.some.inj (h2.symm.trans (Stand.of_body B).code)
      intro x hx
      rw [Array.isEmpty_iff.mp h7] at hx
      cases hx
    obtain ⟨t, a1, o, b1, b2, b3⟩ := body p e s m args below meth c s₁ B hml ht hP s₁ hh0 (Stand.of_body B)
    exact ⟨t, o, a1, b1, b2, b3⟩
/-- the table of a body with handlers -/
theorem vx_table {p : Program} {x y : MethodName} {S : Spec} {cc bytes : ByteArray} {maxL maxL' : Nat} {ret ret' : Option FieldType} {e : Env} {s s₁ : State} {m : MethodId} {args : Array Value} {below : List Frame} {meth : Method} {c : Code} {hh : List (Nat × Nat × Nat × Nat)}
    (B : BodyLoose p l y S cc maxL ret e s m args below meth c s₁) (h : (Cond.codeWith y bytes maxL' ret' hh).before args s = true) : c.exceptionTable.toList = tableOf hh := by
  obtain ⟨m9, meth9, c9, hn9, h1, h2, -, -, h6, -⟩ := Cond.codeWith_spec h
  cases Option.some.inj (hn9.symm.trans B.named)
  cases Option.some.inj (h1.symm.trans B.method)
  cases Option.some.inj (h2.symm.trans (Stand.of_body B).code)
  rw [← h6, table_eq]
end Bodies
end VXA
/-! ===== END ===== -/
/-! ===== BEGIN a static call of a method with an exception table ===== -/
section VXS
variable {p : Program} {l : Launch} {e : Env} {R : Room} {s : State} {m : MethodId} {args : Array Value} {below : List Frame} {meth : Method} {c : Code} {T : State} {H : Heap} {locs : List Loc} {cells slots : Nat}
abbrev vx_CSW (R : Room) (s : State) (args : Array Value) (own : String) (index : Nat) (y : MethodName) (bytes : ByteArray) (maxL : Nat) (ret : Option FieldType) (hh : List (Nat × Nat × Nat × Nat)) (ws : List Cond) (rm : Room) (mc ms n : Nat) : Prop :=
  (rm.cells = mc ∧ rm.slots = ms ∧ rm.frames + 1 ≤ R.frames ∧ 8 + (maxL + 11) + rm.locals ≤ R.locals ∧ (∀ w ∈ ws, ∀ (a' : Array Value) (U : State), s.WarmedH U.vm → w.before a' U = true) ∧ Cond.codeWith y bytes maxL ret hh ∈ ws) ∧
  (Cond.codeWith y bytes maxL ret hh).before args s = true ∧ (Cond.initialized y.cls).before args s = true ∧ (y.cls ≠ "java/lang/invoke/MethodHandle" ∧ y.cls ≠ "java/lang/invoke/VarHandle") ∧
  (∀ sig, parseMethodDescriptor y.desc = some sig → n = sig.parameters.length) ∧ (Cond.methodLink own index y).before args s = true ∧ (Cond.static y).before args s = true
theorem vx_cwSW {own : String} {index maxL mc ms : Nat} {y : MethodName} {bytes : ByteArray} {ret : Option FieldType} {hh : List (Nat × Nat × Nat × Nat)} {Ts ws ws' : List Cond} {rm : Room} (n : Nat) (ht : ∀ w ∈ Ts, w.before args s = true) (hT : GoodIn Ts (va_wsS own index y ws)) (hw : ws = Cond.codeWith y bytes maxL ret hh :: ws') (hrc : rm.cells = mc) (hrs : rm.slots = ms)
    (hd : y.cls ≠ "java/lang/invoke/MethodHandle" ∧ y.cls ≠ "java/lang/invoke/VarHandle" ∧ (parseMethodDescriptor y.desc).map (fun d => d.parameters.length) = some n) (hR : rm.frames + 1 ≤ R.frames ∧ 8 + (maxL + 11) + rm.locals ≤ R.locals) :
    vx_CSW R s args own index y bytes maxL ret hh ws rm mc ms n := by
  have ok : ∀ w ∈ va_wsS own index y ws, w.before args s = true := fun w h => ht w (hT w h).1
  have hG : GoodIn Ts ws := fun w h => hT w (by unfold va_wsS; exact List.mem_append_right _ h)
  have hc : Cond.codeWith y bytes maxL ret hh ∈ ws := by rw [hw]; exact List.mem_cons_self
  refine ⟨⟨hrc, hrs, hR.1, hR.2, pay_in ht hG, hc⟩, ht _ (hG _ hc).1, ok _ (by simp [va_wsS]), ⟨hd.1, hd.2.1⟩, fun sig h => ?_, ok _ (by simp [va_wsS]), ok _ (by simp [va_wsS])⟩
  have h2 := hd.2.2
  rw [h] at h2
  exact (Option.some.inj h2).symm
theorem vx_callSW (X : Stand p l e R s m args below meth c T locs cells slots) (hexec : p.tables.exec = Jvm.exec) {own : String} {index : Nat} {y : MethodName} {bytes : ByteArray} {maxL : Nat} {ret : Option FieldType} {hh : List (Nat × Nat × Nat × Nat)}
    (hown : s.vm.findClass own = some m.cls) (hlink : (Cond.methodLink own index y).before args s = true) (hstat : (Cond.static y).before args s = true) (hinit : (Cond.initialized y.cls).before args s = true)
    (hcode : (Cond.codeWith y bytes maxL ret hh).before args s = true) (hy : y.cls ≠ "java/lang/invoke/MethodHandle" ∧ y.cls ≠ "java/lang/invoke/VarHandle")
    {W9 : Nat} {Pre : Pt → Array Value → Prop} {Post : Pt → Array Value → Option Value → Pt → Prop} (hK : Back l R p e below s args y 3 W9 Pre Post)
    {g : JFrame} (hg : g.method = m) (hsize : g.locals.size = c.maxLocals) {argsL rest : List Value} (hlen : ∀ sig, parseMethodDescriptor y.desc = some sig → argsL.length = sig.parameters.length)
    (hstack : g.stack = argsL.reverse ++ rest) (hW : 2 * g.monitorRoom + (rest.map fun v => v.category).sum ≤ W9) (hdg : decode c.code g.pc = .ok (.invokestatic index, 3))
    (hpre : ∀ vm₁, s.WarmedH vm₁ → Pre ⟨T.setVm vm₁, locs, cells, slots⟩ argsL.toArray) :
    ∃ (v : Option Value) (vm₁ : Vm) (B : Pt), s.WarmedH vm₁ ∧ Stand p l e R s m args below meth c B.U B.locs B.cells B.slots ∧ Post ⟨T.setVm vm₁, locs, cells, slots⟩ argsL.toArray v B ∧
      ∀ target, Steps p.tables e below (B.U.setTop { g with pc := g.pc + 3, stack := v.toList ++ rest }) target → Steps p.tables e below (T.setTop g) target := by
  obtain ⟨mk, methM, cM, hnamed, hmethM, -, -, -, -, -, -, hsigM⟩ := Cond.codeWith_spec hcode
  have hstatic : methM.isStatic = true := Cond.static_spec hnamed hmethM hstat
  obtain ⟨kP, hkP, -⟩ := className_of_methodNamed hnamed
  have hinitP : kP.init = .initialized := Cond.initialized_spec (findClass_of_methodNamed hnamed) hkP hinit
  obtain ⟨vm₁, X₁, hstep₁⟩ := X.invokestatic hexec hown hlink hnamed hmethM hstatic hkP hinitP hy (g := g) hg (argsL := argsL) (rest := rest) (hlen _ hsigM) hstack hdg
  obtain ⟨v, B, X', hpost, hsteps⟩ := hK m meth c ⟨T.setVm vm₁, locs, cells, slots⟩ { g with stack := rest } (.invokestatic index) mk argsL.toArray X₁ hg hsize hdg hW (X₁.named hnamed) (hpre vm₁ X₁.warmed)
  exact ⟨v, vm₁, B, X₁.warmed, X', hpost, fun target h => hstep₁ _ fun acts => by rw [doInvoke_state]; exact hsteps.trans h⟩
theorem vx_runSW {y : MethodName} {bytes cc : ByteArray} {maxL nL mc ms n index : Nat} {ret : Option FieldType} {hh : List (Nat × Nat × Nat × Nat)} {ws : List Cond} {rm : Room} {Pc : Array Value → State → Prop} {Qc : Array Value → State → Outcome → State → Prop} {free : Addr → Prop} {Ts : List Cond} {own : String} {As rest : List Value} {g : JFrame}
    (S : CallFix p m c cc nL s args Ts own) (hM : Met l y ws rm Pc Qc mc ms free) (cw : vx_CSW R s args own index y bytes maxL ret hh ws rm mc ms n) (hp : PreS s H Pc As)
    (hg : g.method = m) (hn : As.length = n) (hsize : g.locals.size = nL) (hstack : g.stack = As.reverse ++ rest) (hW : 2 * g.monitorRoom + (rest.map fun v => v.category).sum ≤ 8) (hdg : decode cc g.pc = .ok (.invokestatic index, 3)) (hf : cells + mc ≤ R.cells ∧ slots + ms ≤ R.slots) :
    va_Run p l e R s m args below meth c H locs cells slots mc ms g rest (Qc As.toArray) (free) := by
  obtain ⟨⟨hrc, hrs, hfr, hlo, hws, hcw⟩, hcode, hini, hy, hlen, hl, hstt⟩ := cw
  have hK : Back l R p e below s args y 3 8 (PreOf R mc ms Pc) (PostOf Qc mc ms free) := va_backW (hh := hh) (bytes := bytes) (maxL := maxL) (ret := ret) hM hp.1 hrc hrs hfr hlo hws hcw (fun a' U hW => word_at hW (Or.inl (by first | rfl | simp [Cond.onTables, Cond.keeps, Cond.steady])) hini)
  obtain ⟨hx, hb, hml, ho, -⟩ := S
  intro T hT X
  obtain ⟨v, vm₁, ⟨U', l2, c2, s2⟩, hW₁, X', ⟨g', mk, t, L, e1, e2, hq, h1, hL, h2, h3⟩, st⟩ := vx_callSW X hx (hh := hh) (bytes := bytes) (maxL := maxL) (ret := ret) ho hl hstt hini hcode hy hK hg (hsize.trans hml.symm) (argsL := As) (rest := rest) (fun sig h => hn.trans (hlen sig h)) hstack hW (by rw [hb]; exact hdg)
    (fun vm₁ hW₁ => ⟨hf.1, hf.2, hp.2 (T.setVm vm₁) hT hW₁⟩)
  dsimp only [Pt.U, Pt.locs, Pt.cells, Pt.slots] at X' e1 e2 h1 h2 h3 st
  subst h1; subst h2; subst h3
  exact ⟨v, (T.setVm vm₁).calling g' mk As.toArray, t, U', L, hT, X', hL, e1, e2, hq, st⟩
/-- not caught here, past rows that name other classes: it goes on to the caller -/
theorem vx_outP {p : Program} {l : Launch} {e : Env} {R : Room} {s : State} {m : MethodId} {args : Array Value} {below : List Frame} {meth : Method} {c : Code} {H : Heap} {locs : List Loc} {cells slots : Nat} {free : Addr → Prop} {ls : Array Slot} {rest : List Value} {Qc : Array Value → State → Outcome → State → Prop} {XC : String → State → State → Prop}
    {pc : Nat} {own E : String} {ce : Cell} {q : Addr} {mc ms : Nat} (hown : s.vm.findClass own = some m.cls) (hlocks : meth.locks = false)
    (hpass : ∀ z ∈ c.exceptionTable.toList, covers z pc = false ∨ (z.catchType ≠ 0 ∧ ∃ nm : String, (Cond.classLink own z.catchType nm).before args s = true ∧ va_Nc E nm s)) (hcell : H[q]? = some ce) (hv : ce.vm = .none) (hcl : s.vm.findClass E = some ce.cls)
    (hx : ∀ t : State, t.heap = H → s.vm.Alike t.vm → XC E s t) (hf : ∀ z ∈ locs, free z.base) (hc : cells ≤ mc) (hs : slots ≤ ms) :
    vx_W p l e R s m args below meth c H locs cells slots (vx_MQ below Qc XC args s mc ms free) (F0 m pc ls rest) q := by
  intro T hT X
  have hpl : e.platform.magicAccessors = ({} : Platform).magicAccessors := by rw [X.admits.platform]
  obtain ⟨vm', hW', X', st⟩ := X.outThrough hlocks q (g := F0 m pc ls rest) rfl rfl rfl (cell := ce) (by rw [hT]; exact hcell) (by rw [hv]; rfl)
    (by obtain ⟨k9, h9, -⟩ := Vm.findClass_spec hcl; exact ⟨k9, h9⟩) (fun z hz => by
      rcases hpass z hz with h | ⟨hz0, nm, hl1, hn1⟩
      · exact Or.inl h
      · obtain ⟨c6, hc6, hcl6⟩ := Cond.classLink_spec hown hl1 e.platform hpl
        obtain ⟨a8, b8, h1, h2, h3⟩ := hn1
        cases Option.some.inj (h1.symm.trans hcl)
        cases Option.some.inj (h2.symm.trans hc6)
        exact Or.inr ⟨hz0, _, hcl6, h3⟩)
  obtain ⟨g₀, hfr⟩ := X'.frames_eq
  have hcell9 : ((T.setVm vm').setFrames (.throwing q :: below)).heap[q]? = some ce := by
    show T.heap[q]? = some ce
    rw [hT]; exact hcell
  have hend : Ended ((T.setVm vm').setFrames (.throwing q :: below)) below (.threw q) := State.frames_setFrames _ (State.cur_lt_of_frames hfr)
  refine ⟨(T.setVm vm').setFrames (.throwing q :: below), ?_, .threw q, X'.here.running, hend, Or.inr ⟨q, rfl, E, ce, locs, hx _ hT (X'.ends _).1.alike, hcell9, hv, hcl, (X'.ends _).1, (X'.ends _).2.mono hc hs, hf⟩⟩
  rw [X.pushThrowing_eq]
  exact st
/-- a thing of a world lies in the heap -/
theorem vx_lt {D : va_G} {cl : List vw_C} {ws : va_W} {H1 : Heap} (h : va_P D cl ws H1) {k : Nat} {q : Nat × va_E} (hk : ws[k]? = some q) : q.1 < H1.size := (h k q hk).lt
end VXS
/-! ===== END ===== -/
/-! ===== BEGIN methods with a table of their own: called by a name, returning or throwing ===== -/
section VXH
/-! vx_backW, vx_callVX, vx_callSX, vx_callVW, vx_runVW, vx_runVX, vx_runSX, vx_ofWH follow the same proofs as their sisters above (Free/Laws.lean, Shelf42/LK1.lean); vx_outP calls Shelf42/NT130.lean (outThrough). -/
section
variable {l : Launch} {R : Room} {p : Program} {e : Env} {below : List Frame} {s : State} {sargs : Array Value} {y : MethodName} {len W9 : Nat}
theorem vx_backW {ws : List Cond} {rm : Room} {Pc : Array Value → State → Prop} {Qc : Array Value → State → Outcome → State → Prop} {XC : String → State → State → Prop} {mc ms : Nat} {free : Addr → Prop} {bytes : ByteArray} {maxL : Nat} {ret : Option FieldType} {hh : List (Nat × Nat × Nat × Nat)}
    (hM : vx_Met l y ws rm Pc Qc XC mc ms free) (hblind : FrameBlind Pc) (hrc : rm.cells = mc) (hrs : rm.slots = ms)
    (hframes : rm.frames + 1 ≤ R.frames) (hlocals : W9 + (maxL + 11) + rm.locals ≤ R.locals)
    (hws : ∀ w ∈ ws, ∀ a' U, s.WarmedH U.vm → w.before a' U = true) (hcode : Cond.codeWith y bytes maxL ret hh ∈ ws) (hinit : ∀ a' U, s.WarmedH U.vm → (Cond.initialized y.cls).before a' U = true) :
    vx_Back l R p e below s sargs y len W9 (PreOf R mc ms Pc) (PostOf Qc mc ms free) (vx_Post XC mc ms free) := by
  intro m meth c A g ig mk a X hg hsize hdg hW hn hp
  have h1 : (headSpec ws rm).pre.before a A.U = true := atoms_intro fun w hw => hws w hw _ _ X.warmed
  have h2 : (Cond.codeWith y bytes maxL ret hh).before a A.U = true := hws _ hcode _ _ X.warmed
  have h3 : (Cond.initialized y.cls).before a A.U = true := hinit _ _ X.warmed
  have h4 : A.cells + (headSpec ws rm).room.cells ≤ R.cells := by rw [show (headSpec ws rm).room.cells = mc from hrc]; exact hp.1
  have h5 : A.slots + (headSpec ws rm).room.slots ≤ R.slots := by rw [show (headSpec ws rm).room.slots = ms from hrs]; exact hp.2.1
  have hPc : Pc a (A.U.calling g mk a) := hblind _ _ _ _ hp.2.2
  obtain ⟨U, Ls, c0, s0⟩ := A
  dsimp only [Pt.U, Pt.locs, Pt.cells, Pt.slots] at h1 h2 h3 h4 h5 X hn hPc ⊢
  obtain ⟨m9, methY, cY, hn9, hmY, hcY, -, hlY, -⟩ := Cond.codeWith_spec h2
  cases Option.some.inj (hn9.symm.trans hn)
  obtain ⟨kY, hkY, -⟩ := className_of_methodNamed hn
  have hinitY : kY.init = .initialized := Cond.initialized_spec (findClass_of_methodNamed hn) hkY h3
  have h : At U g.method c below := by rw [hg]; exact X.here
  have hlocals9 : W9 + (maxL + 11) + (headSpec ws rm).room.locals ≤ R.locals := hlocals
  have happ : (headSpec ws rm).appliesLoose y e.platform (U.calling g mk a) = true :=
    Spec.appliesLoose_calling (g := g) h hdg hn hkY hinitY
      (X.room_calling (g := g) (R' := (headSpec ws rm).room) hsize hmY hcY hframes (by rw [hlY]; omega) h4 h5) h1
  obtain ⟨mid, hmid⟩ := h.above
  have hfr : (U.setTop g).frames = (.java g :: mid) ++ below := by rw [State.frames_setTop' g h.top, hmid]; rfl
  obtain ⟨o, s₂, hsteps, -, hend, hq⟩ := Steps.callFree hM p X.admits X.cas X.clock (acts := []) hfr happ hPc trivial
  have hq' : vx_Q Qc XC mc ms free a (U.calling g mk a) o s₂ := hq
  rw [State.frames_setTop' g h.top] at hend
  obtain ⟨g₀, hg0⟩ := Option.isSome_iff_exists.mp h.top
  obtain ⟨r, hr⟩ := State.topJava?_eq_some.mp hg0
  have hr' : (({ U with heap := s₂.heap, slotsUsed := s₂.slotsUsed } : State).setVm s₂.vm).frames = .java g₀ :: r := hr
  rcases hq' with ⟨hqc, L, hfe, hL⟩ | ⟨q, rfl, E, ce, L, hx, hce, hcv, hcl, hW₂, hsm, hL⟩
  · obtain ⟨⟨v, rfl⟩, hW₂, e2, q2, q3, q4, q5, q6⟩ := id hfe
    have e3 : s₂ = ({ (U.calling g mk a).setFrames s₂.frames with heap := s₂.heap, slotsUsed := s₂.slotsUsed } : State).setVm s₂.vm := by
      have : s₂ = ({ s₂ with vm := (U.calling g mk a).vm } : State).setVm s₂.vm := rfl
      rw [e2] at this
      exact this
    obtain ⟨c₂, i₂, len₂, hc₂, hd₂, hf₂⟩ := hend
    have hW' : U.WarmedH s₂.vm := hW₂
    have hcc : c₂ = c := by
      have h1 : s₂.code? g.method = U.code? g.method := by
        rw [State.code?_eq, State.code?_eq, hW'.alike.method?]
      exact Option.some.inj (hc₂.symm.trans (h1.trans h.code))
    subst hcc
    have hlen : len₂ = len := by rw [hdg] at hd₂; cases hd₂; rfl
    subst hlen
    have hs₂ : s₂ = (({ U with heap := s₂.heap, slotsUsed := s₂.slotsUsed } : State).setVm s₂.vm).setTop { g with pc := g.pc + len₂, stack := v.toList ++ g.stack } := by
      refine e3.trans ?_
      rw [hf₂, State.calling_eq h.top, State.setFrames_setFrames, State.setTop_of_frames _ hr', hr]
      rfl
    have hsame : U.sameButNew ({ U with heap := s₂.heap, slotsUsed := s₂.slotsUsed } : State) L mc ms := by
      refine ⟨?_, q2, q3, q4, q5, q6⟩
      obtain ⟨t, ht, -⟩ := State.frames_cons hr
      show ({ U with heap := s₂.heap, slotsUsed := s₂.slotsUsed } : State) = { U.setFrames U.frames with heap := s₂.heap, slotsUsed := s₂.slotsUsed }
      rw [State.setFrames_self ht]
    subst hg
    refine Or.inl ⟨v, ⟨(({ U with heap := s₂.heap, slotsUsed := s₂.slotsUsed } : State).setVm s₂.vm), Ls ++ L, c0 + mc, s0 + ms⟩,
      ⟨X.admits, X.cas, X.clock, X.frames, X.room, X.hears, X.method, X.code, (X.here.setHeapUsed s₂.heap s₂.slotsUsed).setVm hW'.alike, X.tail, State.WarmedH.trans X.warmed hW', X.limits, X.bytes, X.same.trans (hsame.setVm s.vm)⟩,
      ⟨g, mk, s₂, L, rfl, rfl, hqc, rfl, hL, rfl, rfl⟩, ?_⟩
    show Steps p.tables e below _ ((({ U with heap := s₂.heap, slotsUsed := s₂.slotsUsed } : State).setVm s₂.vm).setTop { g with pc := g.pc + len₂, stack := v.toList ++ g.stack })
    rw [← hs₂]
    exact hsteps
  · obtain ⟨e2, q2, q3, q4, q5, q6⟩ := id hsm
    have e3 : s₂ = ({ (U.calling g mk a).setFrames s₂.frames with heap := s₂.heap, slotsUsed := s₂.slotsUsed } : State).setVm s₂.vm := by
      have : s₂ = ({ s₂ with vm := (U.calling g mk a).vm } : State).setVm s₂.vm := rfl
      rw [e2] at this
      exact this
    have hf₂ : s₂.frames = .throwing q :: .java g :: U.frames.tail := hend
    have hW' : U.WarmedH s₂.vm := hW₂
    have hs₂ : s₂ = ((({ U with heap := s₂.heap, slotsUsed := s₂.slotsUsed } : State).setVm s₂.vm).setTop g).pushFrame (.throwing q) := by
      refine e3.trans ?_
      rw [hf₂, State.calling_eq h.top, State.setFrames_setFrames, State.pushFrame, State.frames_setTop _ hr', State.setTop_of_frames _ hr', State.setFrames_setFrames, hr]
      rfl
    have hsame : U.sameButNew ({ U with heap := s₂.heap, slotsUsed := s₂.slotsUsed } : State) L mc ms := by
      refine ⟨?_, q2, q3, q4, q5, q6⟩
      obtain ⟨t, ht, -⟩ := State.frames_cons hr
      show ({ U with heap := s₂.heap, slotsUsed := s₂.slotsUsed } : State) = { U.setFrames U.frames with heap := s₂.heap, slotsUsed := s₂.slotsUsed }
      rw [State.setFrames_self ht]
    subst hg
    refine Or.inr ⟨q, ⟨(({ U with heap := s₂.heap, slotsUsed := s₂.slotsUsed } : State).setVm s₂.vm), Ls ++ L, c0 + mc, s0 + ms⟩,
      ⟨X.admits, X.cas, X.clock, X.frames, X.room, X.hears, X.method, X.code, (X.here.setHeapUsed s₂.heap s₂.slotsUsed).setVm hW'.alike, X.tail, State.WarmedH.trans X.warmed hW', X.limits, X.bytes, X.same.trans (hsame.setVm s.vm)⟩,
      ⟨g, mk, s₂, L, E, ce, rfl, rfl, hx, hce, hcv, hcl, rfl, hL, rfl, rfl⟩, ?_⟩
    show Steps p.tables e below _ (((({ U with heap := s₂.heap, slotsUsed := s₂.slotsUsed } : State).setVm s₂.vm).setTop g).pushFrame (.throwing q))
    rw [← hs₂]
    exact hsteps
end
variable {p : Program} {l : Launch} {e : Env} {R : Room} {s : State} {m : MethodId} {args : Array Value} {below : List Frame} {meth : Method} {c : Code} {T : State} {H : Heap} {locs : List Loc} {cells slots : Nat}
theorem vx_callVX (X : Stand p l e R s m args below meth c T locs cells slots) (hexec : p.tables.exec = Jvm.exec) {own C : String} {index : Nat} {y : MethodName} {bytes : ByteArray} {maxL : Nat} {ret : Option FieldType} {hh : List (Nat × Nat × Nat × Nat)}
    (hown : s.vm.findClass own = some m.cls) (hlink : (Cond.methodLink own index y).before args s = true) (hinst : (Cond.instanceMethod y).before args s = true) (hsel : (Cond.selects C y y).before args s = true)
    (hcode : (Cond.codeWith y bytes maxL ret hh).before args s = true) (hy : y.cls ≠ "java/lang/invoke/MethodHandle" ∧ y.cls ≠ "java/lang/invoke/VarHandle")
    {W9 : Nat} {Pre : Pt → Array Value → Prop} {Post : Pt → Array Value → Option Value → Pt → Prop} {PostX : Pt → Array Value → Addr → Pt → Prop} (hK : vx_Back l R p e below s args y 3 W9 Pre Post PostX)
    {b : Addr} {cellB : Cell} (hcell : T.heap[b]? = some cellB) (hobj : cellB.vm.isStatics = false) (hcls : s.vm.findClass C = some cellB.cls)
    {g : JFrame} (hg : g.method = m) (hsize : g.locals.size = c.maxLocals) {argsL rest : List Value} (hlen : ∀ sig, parseMethodDescriptor y.desc = some sig → argsL.length = sig.parameters.length)
    (hstack : g.stack = argsL.reverse ++ .ref b :: rest) (hW : 2 * g.monitorRoom + (rest.map fun v => v.category).sum ≤ W9) (hdg : decode c.code g.pc = .ok (.invokevirtual index, 3))
    (hpre : ∀ vm₁, s.WarmedH vm₁ → Pre ⟨T.setVm vm₁, locs, cells, slots⟩ (Value.ref b :: argsL).toArray) :
    (∃ (v : Option Value) (vm₁ : Vm) (B : Pt), s.WarmedH vm₁ ∧ Stand p l e R s m args below meth c B.U B.locs B.cells B.slots ∧ Post ⟨T.setVm vm₁, locs, cells, slots⟩ (Value.ref b :: argsL).toArray v B ∧
      ∀ target, Steps p.tables e below (B.U.setTop { g with pc := g.pc + 3, stack := v.toList ++ rest }) target → Steps p.tables e below (T.setTop g) target) ∨
    (∃ (q : Addr) (vm₁ : Vm) (B : Pt), s.WarmedH vm₁ ∧ Stand p l e R s m args below meth c B.U B.locs B.cells B.slots ∧ PostX ⟨T.setVm vm₁, locs, cells, slots⟩ (Value.ref b :: argsL).toArray q B ∧
      Steps p.tables e below (T.setTop g) ((B.U.setTop { g with stack := rest }).pushFrame (.throwing q))) := by
  obtain ⟨mk, methM, hnamed, hmethM, hstM, habM⟩ := Cond.instanceMethod_spec hinst
  obtain ⟨m8, methM', cM, hn8, hmethM', -, -, -, -, -, -, hsigM⟩ := Cond.codeWith_spec hcode
  cases Option.some.inj (hn8.symm.trans hnamed)
  cases hmethM.symm.trans hmethM'
  obtain ⟨c2, r2, m2, q1, q2, q3, q4, kP, hkP, hkPi⟩ := Cond.selects_spec hsel
  cases hcls.symm.trans q1
  cases (State.methodFound?_of_named hnamed hy).symm.trans q2
  cases hnamed.symm.trans q3
  have hselP : selectMethod e.platform s.vm cellB.cls mk = .method mk := by rw [Launch.admits_selectMethod X.admits]; exact q4
  obtain ⟨vm₁, X₁, hstep₁⟩ := X.invokevirtual hexec hown hlink hnamed hmethM hstM hkP hkPi hy (a := b) (cell := cellB) hcell
    (fun z h => by rw [h] at hobj; cases hobj) hselP hmethM habM hkP hkPi (g := g) hg (argsL := argsL) (rest := rest) (hlen _ hsigM) hstack hdg
  rcases hK m meth c ⟨T.setVm vm₁, locs, cells, slots⟩ { g with stack := rest } (.invokevirtual index) mk (Value.ref b :: argsL).toArray X₁ hg hsize hdg hW (X₁.named hnamed) (hpre vm₁ X₁.warmed) with ⟨v, B, X', hpost, hsteps⟩ | ⟨q, B, X', hpost, hsteps⟩
  · exact Or.inl ⟨v, vm₁, B, X₁.warmed, X', hpost, fun target h => hstep₁ _ fun acts => by rw [doInvoke_state]; exact hsteps.trans h⟩
  · exact Or.inr ⟨q, vm₁, B, X₁.warmed, X', hpost, hstep₁ _ fun acts => by rw [doInvoke_state]; exact hsteps⟩
theorem vx_callSX (X : Stand p l e R s m args below meth c T locs cells slots) (hexec : p.tables.exec = Jvm.exec) {own : String} {index : Nat} {y : MethodName} {bytes : ByteArray} {maxL : Nat} {ret : Option FieldType} {hh : List (Nat × Nat × Nat × Nat)}
    (hown : s.vm.findClass own = some m.cls) (hlink : (Cond.methodLink own index y).before args s = true) (hstat : (Cond.static y).before args s = true) (hinit : (Cond.initialized y.cls).before args s = true)
    (hcode : (Cond.codeWith y bytes maxL ret hh).before args s = true) (hy : y.cls ≠ "java/lang/invoke/MethodHandle" ∧ y.cls ≠ "java/lang/invoke/VarHandle")
    {W9 : Nat} {Pre : Pt → Array Value → Prop} {Post : Pt → Array Value → Option Value → Pt → Prop} {PostX : Pt → Array Value → Addr → Pt → Prop} (hK : vx_Back l R p e below s args y 3 W9 Pre Post PostX)
    {g : JFrame} (hg : g.method = m) (hsize : g.locals.size = c.maxLocals) {argsL rest : List Value} (hlen : ∀ sig, parseMethodDescriptor y.desc = some sig → argsL.length = sig.parameters.length)
    (hstack : g.stack = argsL.reverse ++ rest) (hW : 2 * g.monitorRoom + (rest.map fun v => v.category).sum ≤ W9) (hdg : decode c.code g.pc = .ok (.invokestatic index, 3))
    (hpre : ∀ vm₁, s.WarmedH vm₁ → Pre ⟨T.setVm vm₁, locs, cells, slots⟩ argsL.toArray) :
    (∃ (v : Option Value) (vm₁ : Vm) (B : Pt), s.WarmedH vm₁ ∧ Stand p l e R s m args below meth c B.U B.locs B.cells B.slots ∧ Post ⟨T.setVm vm₁, locs, cells, slots⟩ argsL.toArray v B ∧
      ∀ target, Steps p.tables e below (B.U.setTop { g with pc := g.pc + 3, stack := v.toList ++ rest }) target → Steps p.tables e below (T.setTop g) target) ∨
    (∃ (q : Addr) (vm₁ : Vm) (B : Pt), s.WarmedH vm₁ ∧ Stand p l e R s m args below meth c B.U B.locs B.cells B.slots ∧ PostX ⟨T.setVm vm₁, locs, cells, slots⟩ argsL.toArray q B ∧
      Steps p.tables e below (T.setTop g) ((B.U.setTop { g with stack := rest }).pushFrame (.throwing q))) := by
  obtain ⟨mk, methM, cM, hnamed, hmethM, -, -, -, -, -, -, hsigM⟩ := Cond.codeWith_spec hcode
  have hstatic : methM.isStatic = true := Cond.static_spec hnamed hmethM hstat
  obtain ⟨kP, hkP, -⟩ := className_of_methodNamed hnamed
  have hinitP : kP.init = .initialized := Cond.initialized_spec (findClass_of_methodNamed hnamed) hkP hinit
  obtain ⟨vm₁, X₁, hstep₁⟩ := X.invokestatic hexec hown hlink hnamed hmethM hstatic hkP hinitP hy (g := g) hg (argsL := argsL) (rest := rest) (hlen _ hsigM) hstack hdg
  rcases hK m meth c ⟨T.setVm vm₁, locs, cells, slots⟩ { g with stack := rest } (.invokestatic index) mk argsL.toArray X₁ hg hsize hdg hW (X₁.named hnamed) (hpre vm₁ X₁.warmed) with ⟨v, B, X', hpost, hsteps⟩ | ⟨q, B, X', hpost, hsteps⟩
  · exact Or.inl ⟨v, vm₁, B, X₁.warmed, X', hpost, fun target h => hstep₁ _ fun acts => by rw [doInvoke_state]; exact hsteps.trans h⟩
  · exact Or.inr ⟨q, vm₁, B, X₁.warmed, X', hpost, hstep₁ _ fun acts => by rw [doInvoke_state]; exact hsteps⟩
theorem vx_callVW (X : Stand p l e R s m args below meth c T locs cells slots) (hexec : p.tables.exec = Jvm.exec) {own C : String} {index : Nat} {y : MethodName} {bytes : ByteArray} {maxL : Nat} {ret : Option FieldType} {hh : List (Nat × Nat × Nat × Nat)}
    (hown : s.vm.findClass own = some m.cls) (hlink : (Cond.methodLink own index y).before args s = true) (hinst : (Cond.instanceMethod y).before args s = true) (hsel : (Cond.selects C y y).before args s = true)
    (hcode : (Cond.codeWith y bytes maxL ret hh).before args s = true) (hy : y.cls ≠ "java/lang/invoke/MethodHandle" ∧ y.cls ≠ "java/lang/invoke/VarHandle")
    {W9 : Nat} {Pre : Pt → Array Value → Prop} {Post : Pt → Array Value → Option Value → Pt → Prop} (hK : Back l R p e below s args y 3 W9 Pre Post)
    {b : Addr} {cellB : Cell} (hcell : T.heap[b]? = some cellB) (hobj : cellB.vm.isStatics = false) (hcls : s.vm.findClass C = some cellB.cls)
    {g : JFrame} (hg : g.method = m) (hsize : g.locals.size = c.maxLocals) {argsL rest : List Value} (hlen : ∀ sig, parseMethodDescriptor y.desc = some sig → argsL.length = sig.parameters.length)
    (hstack : g.stack = argsL.reverse ++ .ref b :: rest) (hW : 2 * g.monitorRoom + (rest.map fun v => v.category).sum ≤ W9) (hdg : decode c.code g.pc = .ok (.invokevirtual index, 3))
    (hpre : ∀ vm₁, s.WarmedH vm₁ → Pre ⟨T.setVm vm₁, locs, cells, slots⟩ (Value.ref b :: argsL).toArray) :
    ∃ (v : Option Value) (vm₁ : Vm) (B : Pt), s.WarmedH vm₁ ∧ Stand p l e R s m args below meth c B.U B.locs B.cells B.slots ∧ Post ⟨T.setVm vm₁, locs, cells, slots⟩ (Value.ref b :: argsL).toArray v B ∧
      ∀ target, Steps p.tables e below (B.U.setTop { g with pc := g.pc + 3, stack := v.toList ++ rest }) target → Steps p.tables e below (T.setTop g) target := by
  obtain ⟨mk, methM, hnamed, hmethM, hstM, habM⟩ := Cond.instanceMethod_spec hinst
  obtain ⟨m8, methM', cM, hn8, hmethM', -, -, -, -, -, -, hsigM⟩ := Cond.codeWith_spec hcode
  cases Option.some.inj (hn8.symm.trans hnamed)
  cases hmethM.symm.trans hmethM'
  obtain ⟨c2, r2, m2, q1, q2, q3, q4, kP, hkP, hkPi⟩ := Cond.selects_spec hsel
  cases hcls.symm.trans q1
  cases (State.methodFound?_of_named hnamed hy).symm.trans q2
  cases hnamed.symm.trans q3
  have hselP : selectMethod e.platform s.vm cellB.cls mk = .method mk := by rw [Launch.admits_selectMethod X.admits]; exact q4
  obtain ⟨vm₁, X₁, hstep₁⟩ := X.invokevirtual hexec hown hlink hnamed hmethM hstM hkP hkPi hy (a := b) (cell := cellB) hcell
    (fun z h => by rw [h] at hobj; cases hobj) hselP hmethM habM hkP hkPi (g := g) hg (argsL := argsL) (rest := rest) (hlen _ hsigM) hstack hdg
  obtain ⟨v, B, X', hpost, hsteps⟩ := hK m meth c ⟨T.setVm vm₁, locs, cells, slots⟩ { g with stack := rest } (.invokevirtual index) mk (Value.ref b :: argsL).toArray X₁ hg hsize hdg hW (X₁.named hnamed) (hpre vm₁ X₁.warmed)
  exact ⟨v, vm₁, B, X₁.warmed, X', hpost, fun target h => hstep₁ _ fun acts => by rw [doInvoke_state]; exact hsteps.trans h⟩
abbrev vx_CVW (R : Room) (s : State) (args : Array Value) (own C : String) (index : Nat) (y : MethodName) (bytes : ByteArray) (maxL : Nat) (ret : Option FieldType) (hh : List (Nat × Nat × Nat × Nat)) (ws : List Cond) (rm : Room) (mc ms n : Nat) : Prop :=
  (rm.cells = mc ∧ rm.slots = ms ∧ rm.frames + 1 ≤ R.frames ∧ 8 + (maxL + 11) + rm.locals ≤ R.locals ∧ (∀ w ∈ ws, ∀ (a' : Array Value) (U : State), s.WarmedH U.vm → w.before a' U = true) ∧ Cond.codeWith y bytes maxL ret hh ∈ ws) ∧
  (Cond.codeWith y bytes maxL ret hh).before args s = true ∧ (Cond.initialized y.cls).before args s = true ∧ (y.cls ≠ "java/lang/invoke/MethodHandle" ∧ y.cls ≠ "java/lang/invoke/VarHandle") ∧
  (∀ sig, parseMethodDescriptor y.desc = some sig → n = sig.parameters.length) ∧ (Cond.methodLink own index y).before args s = true ∧ (Cond.instanceMethod y).before args s = true ∧ (Cond.selects C y y).before args s = true
theorem vx_cwVW {own C : String} {index maxL mc ms : Nat} {y : MethodName} {bytes : ByteArray} {ret : Option FieldType} {hh : List (Nat × Nat × Nat × Nat)} {Ts ws ws' : List Cond} {rm : Room} (n : Nat) (ht : ∀ w ∈ Ts, w.before args s = true) (hT : GoodIn Ts (wsV own index C y ws)) (hw : ws = Cond.codeWith y bytes maxL ret hh :: ws') (hrc : rm.cells = mc) (hrs : rm.slots = ms)
    (hd : y.cls = C ∧ y.cls ≠ "java/lang/invoke/MethodHandle" ∧ y.cls ≠ "java/lang/invoke/VarHandle" ∧ (parseMethodDescriptor y.desc).map (fun d => d.parameters.length) = some n) (hR : rm.frames + 1 ≤ R.frames ∧ 8 + (maxL + 11) + rm.locals ≤ R.locals) :
    vx_CVW R s args own C index y bytes maxL ret hh ws rm mc ms n := by
  obtain ⟨hC, hd⟩ := hd
  subst hC
  have ok : ∀ w ∈ wsV own index y.cls y ws, w.before args s = true := fun w h => ht w (hT w h).1
  have hG : GoodIn Ts ws := fun w h => hT w (by unfold wsV; exact List.mem_append_right _ h)
  have hc : Cond.codeWith y bytes maxL ret hh ∈ ws := by rw [hw]; exact List.mem_cons_self
  refine ⟨⟨hrc, hrs, hR.1, hR.2, pay_in ht hG, hc⟩, ht _ (hG _ hc).1, ok _ (by simp [wsV]), ⟨hd.1, hd.2.1⟩, fun sig h => ?_, ok _ (by simp [wsV]), ok _ (by simp [wsV]), ok _ (by simp [wsV])⟩
  have h2 := hd.2.2
  rw [h] at h2
  exact (Option.some.inj h2).symm
theorem vx_runVW {y : MethodName} {bytes cc : ByteArray} {maxL nL mc ms n index : Nat} {ret : Option FieldType} {hh : List (Nat × Nat × Nat × Nat)} {ws : List Cond} {rm : Room} {Pc : Array Value → State → Prop} {Qc : Array Value → State → Outcome → State → Prop} {free : Addr → Prop} {Ts : List Cond} {own C : String} {b : Addr} {As rest : List Value} {g : JFrame}
    (S : CallFix p m c cc nL s args Ts own) (hM : Met l y ws rm Pc Qc mc ms free) (cw : vx_CVW R s args own C index y bytes maxL ret hh ws rm mc ms n) (hp : PreV s H C b Pc As)
    (hg : g.method = m) (hn : As.length = n) (hsize : g.locals.size = nL) (hstack : g.stack = As.reverse ++ .ref b :: rest) (hW : 2 * g.monitorRoom + (rest.map fun v => v.category).sum ≤ 8) (hdg : decode cc g.pc = .ok (.invokevirtual index, 3)) (hf : cells + mc ≤ R.cells ∧ slots + ms ≤ R.slots) :
    va_Run p l e R s m args below meth c H locs cells slots mc ms g rest (Qc (Value.ref b :: As).toArray) free := by
  obtain ⟨⟨hrc, hrs, hfr, hlo, hws, hcw⟩, hcode, hini, hy, hlen, hl, hin, hse⟩ := cw
  have hK : Back l R p e below s args y 3 8 (PreOf R mc ms Pc) (PostOf Qc mc ms free) := va_backW (hh := hh) (bytes := bytes) (maxL := maxL) (ret := ret) hM hp.1 hrc hrs hfr hlo hws hcw (fun a' U hW => word_at hW (Or.inl (by first | rfl | simp [Cond.onTables, Cond.keeps, Cond.steady])) hini)
  obtain ⟨hx, hb, hml, ho, -⟩ := S
  obtain ⟨-, ⟨cellB, hcB, hoB, hclB⟩, hPc⟩ := hp
  intro T hT X
  obtain ⟨v, vm₁, ⟨U', l2, c2, s2⟩, hW₁, X', ⟨g', mk, t, L, e1, e2, hq, h1, hL, h2, h3⟩, st⟩ := vx_callVW X hx (C := C) (hh := hh) (bytes := bytes) (maxL := maxL) (ret := ret) ho hl hin hse hcode hy hK (by rw [hT]; exact hcB) hoB hclB hg (hsize.trans hml.symm) (argsL := As) (rest := rest) (fun sig h => hn.trans (hlen sig h)) hstack hW (by rw [hb]; exact hdg)
    (fun vm₁ hW₁ => ⟨hf.1, hf.2, hPc (T.setVm vm₁) hT hW₁⟩)
  dsimp only [Pt.U, Pt.locs, Pt.cells, Pt.slots] at X' e1 e2 h1 h2 h3 st
  subst h1; subst h2; subst h3
  exact ⟨v, (T.setVm vm₁).calling g' mk (Value.ref b :: As).toArray, t, U', L, hT, X', hL, e1, e2, hq, st⟩
section
variable {y : MethodName} {bytes cc : ByteArray} {maxL nL mc ms n index : Nat} {ret : Option FieldType} {ws : List Cond} {rm : Room} {Pc : Array Value → State → Prop} {Qc : Array Value → State → Outcome → State → Prop} {XC : String → State → State → Prop} {free : Addr → Prop} {Ts : List Cond} {own C : String} {b : Addr} {As rest : List Value} {g : JFrame}
theorem vx_runVX {hh : List (Nat × Nat × Nat × Nat)} (S : CallFix p m c cc nL s args Ts own) (hM : vx_Met l y ws rm Pc Qc XC mc ms free) (cw : vx_CVW R s args own C index y bytes maxL ret hh ws rm mc ms n) (hp : PreV s H C b Pc As)
    (hg : g.method = m) (hn : As.length = n) (hsize : g.locals.size = nL) (hstack : g.stack = As.reverse ++ .ref b :: rest) (hW : 2 * g.monitorRoom + (rest.map fun v => v.category).sum ≤ 8) (hdg : decode cc g.pc = .ok (.invokevirtual index, 3)) (hf : cells + mc ≤ R.cells ∧ slots + ms ≤ R.slots) :
    vx_Run p l e R s m args below meth c H locs cells slots mc ms g rest (Qc (Value.ref b :: As).toArray) XC free := by
  obtain ⟨⟨hrc, hrs, hfr, hlo, hws, hcw⟩, hcode, hini, hy, hlen, hl, hin, hse⟩ := cw
  have hK : vx_Back l R p e below s args y 3 8 (PreOf R mc ms Pc) (PostOf Qc mc ms free) (vx_Post XC mc ms free) := vx_backW (hh := hh) (bytes := bytes) (maxL := maxL) (ret := ret) hM hp.1 hrc hrs hfr hlo hws hcw (fun a' U hW => word_at hW (Or.inl (by first | rfl | simp [Cond.onTables, Cond.keeps, Cond.steady])) hini)
  obtain ⟨hx, hb, hml, ho, -⟩ := S
  obtain ⟨-, ⟨cellB, hcB, hoB, hclB⟩, hPc⟩ := hp
  intro T hT X
  rcases vx_callVX X hx (C := C) (hh := hh) (bytes := bytes) (maxL := maxL) (ret := ret) ho hl hin hse hcode hy hK (by rw [hT]; exact hcB) hoB hclB hg (hsize.trans hml.symm) (argsL := As) (rest := rest) (fun sig h => hn.trans (hlen sig h)) hstack hW (by rw [hb]; exact hdg)
    (fun vm₁ hW₁ => ⟨hf.1, hf.2, hPc (T.setVm vm₁) hT hW₁⟩) with ⟨v, vm₁, ⟨U', l2, c2, s2⟩, hW₁, X', ⟨g', mk, t, L, e1, e2, hq, h1, hL, h2, h3⟩, st⟩ | ⟨q, vm₁, ⟨U', l2, c2, s2⟩, hW₁, X', ⟨g', mk, t, L, E, ce, e1, e2, hq, hce, hcv, hcl, h1, hL, h2, h3⟩, st⟩
  · dsimp only [Pt.U, Pt.locs, Pt.cells, Pt.slots] at X' e1 e2 h1 h2 h3 st
    subst h1; subst h2; subst h3
    exact Or.inl ⟨v, (T.setVm vm₁).calling g' mk (Value.ref b :: As).toArray, t, U', L, hT, X', hL, e1, e2, hq, st⟩
  · dsimp only [Pt.U, Pt.locs, Pt.cells, Pt.slots] at X' e1 e2 h1 h2 h3 st hcl
    subst h1; subst h2; subst h3
    exact Or.inr ⟨q, (T.setVm vm₁).calling g' mk (Value.ref b :: As).toArray, t, U', L, E, ce, hT, X', hL, e1, e2, hq, hce, hcv, vx_cls hW₁ hcl, st⟩
theorem vx_runSX {hh : List (Nat × Nat × Nat × Nat)} (S : CallFix p m c cc nL s args Ts own) (hM : vx_Met l y ws rm Pc Qc XC mc ms free) (cw : vx_CSW R s args own index y bytes maxL ret hh ws rm mc ms n) (hp : PreS s H Pc As)
    (hg : g.method = m) (hn : As.length = n) (hsize : g.locals.size = nL) (hstack : g.stack = As.reverse ++ rest) (hW : 2 * g.monitorRoom + (rest.map fun v => v.category).sum ≤ 8) (hdg : decode cc g.pc = .ok (.invokestatic index, 3)) (hf : cells + mc ≤ R.cells ∧ slots + ms ≤ R.slots) :
    vx_Run p l e R s m args below meth c H locs cells slots mc ms g rest (Qc As.toArray) XC free := by
  obtain ⟨⟨hrc, hrs, hfr, hlo, hws, hcw⟩, hcode, hini, hy, hlen, hl, hstt⟩ := cw
  have hK : vx_Back l R p e below s args y 3 8 (PreOf R mc ms Pc) (PostOf Qc mc ms free) (vx_Post XC mc ms free) := vx_backW (hh := hh) (bytes := bytes) (maxL := maxL) (ret := ret) hM hp.1 hrc hrs hfr hlo hws hcw (fun a' U hW => word_at hW (Or.inl (by first | rfl | simp [Cond.onTables, Cond.keeps, Cond.steady])) hini)
  obtain ⟨hx, hb, hml, ho, -⟩ := S
  intro T hT X
  rcases vx_callSX X hx (hh := hh) (bytes := bytes) (maxL := maxL) (ret := ret) ho hl hstt hini hcode hy hK hg (hsize.trans hml.symm) (argsL := As) (rest := rest) (fun sig h => hn.trans (hlen sig h)) hstack hW (by rw [hb]; exact hdg)
    (fun vm₁ hW₁ => ⟨hf.1, hf.2, hp.2 (T.setVm vm₁) hT hW₁⟩) with ⟨v, vm₁, ⟨U', l2, c2, s2⟩, hW₁, X', ⟨g', mk, t, L, e1, e2, hq, h1, hL, h2, h3⟩, st⟩ | ⟨q, vm₁, ⟨U', l2, c2, s2⟩, hW₁, X', ⟨g', mk, t, L, E, ce, e1, e2, hq, hce, hcv, hcl, h1, hL, h2, h3⟩, st⟩
  · dsimp only [Pt.U, Pt.locs, Pt.cells, Pt.slots] at X' e1 e2 h1 h2 h3 st
    subst h1; subst h2; subst h3
    exact Or.inl ⟨v, (T.setVm vm₁).calling g' mk As.toArray, t, U', L, hT, X', hL, e1, e2, hq, st⟩
  · dsimp only [Pt.U, Pt.locs, Pt.cells, Pt.slots] at X' e1 e2 h1 h2 h3 st hcl
    subst h1; subst h2; subst h3
    exact Or.inr ⟨q, (T.setVm vm₁).calling g' mk As.toArray, t, U', L, E, ce, hT, X', hL, e1, e2, hq, hce, hcv, vx_cls hW₁ hcl, st⟩
end
end VXH
theorem vx_ofWH {l : Launch} {y : MethodName} {ws ws' : List Cond} {rm : Room} {Pc : Array Value → State → Prop} {Qc : Array Value → State → Outcome → State → Prop} {XC : String → State → State → Prop} {mc ms : Nat} {free : Addr → Prop} {cc : ByteArray} {maxL : Nat} {ret : Option FieldType} {hh : List (Nat × Nat × Nat × Nat)}
    (hy : plainName y.cls = true) (hw : ws = Cond.codeWith y cc maxL ret hh :: ws')
    (body : ∀ p e s m args below meth c s₁, BodyLoose p l y (headSpec ws rm) cc maxL ret e s m args below meth c s₁ → c.maxLocals = maxL → Pc args s →
      W p l e (headSpec ws rm).room s m args below meth c s.heap [] 0 0 (vx_MQ below Qc XC args s mc ms free) (entryFrame m args maxL)) : vx_Met l y ws rm Pc Qc XC mc ms free := by
  refine MetFree.of_bodyS (code := cc) (maxLocals := maxL) (ret := ret) hy ?_ ?_
  · intro args s m h hn
    obtain ⟨m9, meth, c, hn9, h1, h2, h3, h4, -, h5, h6, -⟩ := Cond.codeWith_spec (atoms_spec (ws := ws) h _ (by rw [hw]; exact List.mem_cons_self))
    cases hn.symm.trans hn9
    exact ⟨meth, c, h1, h2, h3, h4, h5, h6⟩
  · intro p e s m args below meth c s₁ B hml hP _
    have hh0 : s₁.heap = s.heap := by rw [B.state]; rfl
    obtain ⟨t, a1, o, b1, b2, b3⟩ := body p e s m args below meth c s₁ B hml hP s₁ hh0 (Stand.of_body B)
    exact ⟨t, o, a1, b1, b2, b3⟩
/-! ===== END ===== -/

/-! ===== BEGIN printed: names, fields, word lists, decode rows ===== -/
def RX0 : String := "HintedPages$Reader"
def TX0 : u_T := fun k => match k with
  | 0 => ("HintedPages$Reader", "behind", "I", false)
  | 1 => ("HintedPages$Reader", "first", "I", false)
  | 2 => ("HintedPages$Reader", "last", "I", false)
  | _ => ("HintedPages$Reader", "hint", "I", false)
def tyX0 : Nat → FieldType := fun k => match k with
  | 0 => .int
  | 1 => .int
  | 2 => .int
  | _ => .int
abbrev wsX00 : List Cond := u_ws RX0 TX0 4
theorem nmX0 : ∀ a, a < 4 → ∀ b, b < 4 → a ≠ b → (TX0 a).2.1 ≠ (TX0 b).2.1 := by decide +kernel
theorem tyX0_ok : ∀ k, k < 4 → parseFieldDescriptor (TX0 k).2.2.1 = some (tyX0 k) := by decide +kernel
abbrev cX0_init : ByteArray := prog_2_method_1_code
def yX0_init : MethodName := ⟨RX0, "<init>", "()V"⟩
abbrev cX0_restart : ByteArray := prog_2_method_2_code
def yX0_restart : MethodName := ⟨RX0, "restart", "()V"⟩
abbrev cX0_isPartWhole : ByteArray := prog_2_method_3_code
def yX0_isPartWhole : MethodName := ⟨RX0, "isPartWhole", "()Z"⟩
abbrev cX0_accepts : ByteArray := prog_2_method_4_code
def yX0_accepts : MethodName := ⟨RX0, "accepts", "(I)Z"⟩
abbrev cX0_acceptsDigit : ByteArray := prog_2_method_5_code
def yX0_acceptsDigit : MethodName := ⟨RX0, "acceptsDigit", "(I)Z"⟩
abbrev cX0_acceptsFirst : ByteArray := prog_2_method_6_code
def yX0_acceptsFirst : MethodName := ⟨RX0, "acceptsFirst", "(I)Z"⟩
abbrev cX0_acceptsLast : ByteArray := prog_2_method_7_code
def yX0_acceptsLast : MethodName := ⟨RX0, "acceptsLast", "(IZ)Z"⟩
abbrev cX0_acceptsHint : ByteArray := prog_2_method_8_code
def yX0_acceptsHint : MethodName := ⟨RX0, "acceptsHint", "(I)Z"⟩
abbrev cX0_goesOn : ByteArray := prog_2_method_9_code
def yX0_goesOn : MethodName := ⟨RX0, "goesOn", "(ZI)Z"⟩
abbrev cX0_mayGrow : ByteArray := prog_2_method_10_code
def yX0_mayGrow : MethodName := ⟨RX0, "mayGrow", "(I)Z"⟩
def RX1 : String := "HintedPages$Store"
def TX1 : u_T := fun k => match k with
  | 0 => ("HintedPages$Store", "placeOfPage", "[I", true)
  | 1 => ("HintedPages$Store", "hintOfPage", "[I", true)
  | 2 => ("HintedPages$Store", "writesOfPage", "[I", true)
  | 3 => ("HintedPages$Store", "copiesOfPage", "[I", true)
  | 4 => ("HintedPages$Store", "copiesSinceWrite", "[I", true)
  | 5 => ("HintedPages$Store", "pageAt", "[I", true)
  | 6 => ("HintedPages$Store", "streamOfBlock", "[I", true)
  | 7 => ("HintedPages$Store", "programmedOfBlock", "[I", true)
  | 8 => ("HintedPages$Store", "validOfBlock", "[I", true)
  | 9 => ("HintedPages$Store", "erasuresOfBlock", "[I", true)
  | 10 => ("HintedPages$Store", "closingOfBlock", "[I", true)
  | 11 => ("HintedPages$Store", "openOfStream", "[I", true)
  | 12 => ("HintedPages$Store", "programmedOfStream", "[I", true)
  | 13 => ("HintedPages$Store", "copiesOfStream", "[I", true)
  | 14 => ("HintedPages$Store", "settings", "[I", true)
  | 15 => ("HintedPages$Store", "freeBlocks", "I", false)
  | _ => ("HintedPages$Store", "closings", "I", false)
def tyX1 : Nat → FieldType := fun k => match k with
  | 0 => .array .int
  | 1 => .array .int
  | 2 => .array .int
  | 3 => .array .int
  | 4 => .array .int
  | 5 => .array .int
  | 6 => .array .int
  | 7 => .array .int
  | 8 => .array .int
  | 9 => .array .int
  | 10 => .array .int
  | 11 => .array .int
  | 12 => .array .int
  | 13 => .array .int
  | 14 => .array .int
  | 15 => .int
  | _ => .int
abbrev wsX10 : List Cond := u_ws RX1 TX1 17
theorem nmX1 : ∀ a, a < 17 → ∀ b, b < 17 → a ≠ b → (TX1 a).2.1 ≠ (TX1 b).2.1 := by decide +kernel
theorem tyX1_ok : ∀ k, k < 17 → parseFieldDescriptor (TX1 k).2.2.1 = some (tyX1 k) := by decide +kernel
abbrev cX1_init : ByteArray := prog_3_method_1_code
def yX1_init : MethodName := ⟨RX1, "<init>", "()V"⟩
abbrev cX1_becomeLike : ByteArray := prog_3_method_2_code
def yX1_becomeLike : MethodName := ⟨RX1, "becomeLike", "(LHintedPages$Store;)V"⟩
abbrev cX1_copyRow : ByteArray := prog_3_method_3_code
def yX1_copyRow : MethodName := ⟨RX1, "copyRow", "([I[I)V"⟩
abbrev cX1_writePages : ByteArray := prog_3_method_4_code
def yX1_writePages : MethodName := ⟨RX1, "writePages", "(III)I"⟩
abbrev cX1_writePage : ByteArray := prog_3_method_5_code
def yX1_writePage : MethodName := ⟨RX1, "writePage", "(II)V"⟩
abbrev cX1_forget : ByteArray := prog_3_method_6_code
def yX1_forget : MethodName := ⟨RX1, "forget", "(I)V"⟩
abbrev cX1_openBlock : ByteArray := prog_3_method_7_code
def yX1_openBlock : MethodName := ⟨RX1, "openBlock", "(I)I"⟩
abbrev cX1_program : ByteArray := prog_3_method_8_code
def yX1_program : MethodName := ⟨RX1, "program", "(III)V"⟩
abbrev cX1_collectVictims : ByteArray := prog_3_method_9_code
def yX1_collectVictims : MethodName := ⟨RX1, "collectVictims", "(I)I"⟩
abbrev cX1_victim : ByteArray := prog_3_method_10_code
def yX1_victim : MethodName := ⟨RX1, "victim", "()I"⟩
abbrev cX1_rankOf : ByteArray := prog_3_method_11_code
def yX1_rankOf : MethodName := ⟨RX1, "rankOf", "(I)I"⟩
abbrev cX1_collectBlock : ByteArray := prog_3_method_12_code
def yX1_collectBlock : MethodName := ⟨RX1, "collectBlock", "(I)V"⟩
abbrev cX1_erase : ByteArray := prog_3_method_13_code
def yX1_erase : MethodName := ⟨RX1, "erase", "(I)V"⟩
abbrev cX1_isWritten : ByteArray := prog_3_method_14_code
def yX1_isWritten : MethodName := ⟨RX1, "isWritten", "(I)Z"⟩
abbrev cX1_blockOf : ByteArray := prog_3_method_15_code
def yX1_blockOf : MethodName := ⟨RX1, "blockOf", "(I)I"⟩
abbrev cX1_validPageAt : ByteArray := prog_3_method_16_code
def yX1_validPageAt : MethodName := ⟨RX1, "validPageAt", "(I)I"⟩
abbrev cX1_stateOf : ByteArray := prog_3_method_17_code
def yX1_stateOf : MethodName := ⟨RX1, "stateOf", "(I)I"⟩
abbrev cX1_pageProperty : ByteArray := prog_3_method_18_code
def yX1_pageProperty : MethodName := ⟨RX1, "pageProperty", "(II)I"⟩
abbrev cX1_blockProperty : ByteArray := prog_3_method_19_code
def yX1_blockProperty : MethodName := ⟨RX1, "blockProperty", "(II)I"⟩
abbrev cX1_closedAheadOf : ByteArray := prog_3_method_20_code
def yX1_closedAheadOf : MethodName := ⟨RX1, "closedAheadOf", "(I)I"⟩
abbrev cX1_unlikeHintsOf : ByteArray := prog_3_method_21_code
def yX1_unlikeHintsOf : MethodName := ⟨RX1, "unlikeHintsOf", "(I)I"⟩
abbrev cX1_streamProperty : ByteArray := prog_3_method_22_code
def yX1_streamProperty : MethodName := ⟨RX1, "streamProperty", "(II)I"⟩
abbrev cX1_pagesWithHint : ByteArray := prog_3_method_23_code
def yX1_pagesWithHint : MethodName := ⟨RX1, "pagesWithHint", "(I)I"⟩
abbrev cX1_percentOf : ByteArray := prog_3_method_24_code
def yX1_percentOf : MethodName := ⟨RX1, "percentOf", "(I)I"⟩
abbrev cX1_total : ByteArray := prog_3_method_25_code
def yX1_total : MethodName := ⟨RX1, "total", "(I)I"⟩
abbrev cX1_writes : ByteArray := prog_3_method_26_code
def yX1_writes : MethodName := ⟨RX1, "writes", "()I"⟩
abbrev cX1_copies : ByteArray := prog_3_method_27_code
def yX1_copies : MethodName := ⟨RX1, "copies", "()I"⟩
abbrev cX1_erasures : ByteArray := prog_3_method_28_code
def yX1_erasures : MethodName := ⟨RX1, "erasures", "()I"⟩
abbrev cX1_openBlocks : ByteArray := prog_3_method_29_code
def yX1_openBlocks : MethodName := ⟨RX1, "openBlocks", "()I"⟩
abbrev cX1_spreadOfErasures : ByteArray := prog_3_method_30_code
def yX1_spreadOfErasures : MethodName := ⟨RX1, "spreadOfErasures", "()I"⟩
abbrev cX1_sum : ByteArray := prog_3_method_31_code
def yX1_sum : MethodName := ⟨RX1, "sum", "([I)I"⟩
def RX2 : String := "HintedPages"
def TX2 : u_T := fun k => match k with
  | 0 => ("HintedPages", "store", "LHintedPages$Store;", false)
  | 1 => ("HintedPages", "trial", "LHintedPages$Store;", true)
  | 2 => ("HintedPages", "saved", "[LHintedPages$Store;", true)
  | 3 => ("HintedPages", "savedStates", "I", false)
  | 4 => ("HintedPages", "codes", "[I", true)
  | 5 => ("HintedPages", "length", "I", false)
  | _ => ("HintedPages", "reader", "LHintedPages$Reader;", true)
def tyX2 : Nat → FieldType := fun k => match k with
  | 0 => .object "HintedPages$Store"
  | 1 => .object "HintedPages$Store"
  | 2 => .array (.object "HintedPages$Store")
  | 3 => .int
  | 4 => .array .int
  | 5 => .int
  | _ => .object "HintedPages$Reader"
abbrev wsX20 : List Cond := u_ws RX2 TX2 7
theorem nmX2 : ∀ a, a < 7 → ∀ b, b < 7 → a ≠ b → (TX2 a).2.1 ≠ (TX2 b).2.1 := by decide +kernel
theorem tyX2_ok : ∀ k, k < 7 → parseFieldDescriptor (TX2 k).2.2.1 = some (tyX2 k) := by decide +kernel
abbrev cX2_init : ByteArray := prog_1_method_1_code
def yX2_init : MethodName := ⟨RX2, "<init>", "()V"⟩
abbrev cX2_write : ByteArray := prog_1_method_2_code
def yX2_write : MethodName := ⟨RX2, "write", "(II)I"⟩
abbrev cX2_writeRow : ByteArray := prog_1_method_3_code
def yX2_writeRow : MethodName := ⟨RX2, "writeRow", "(III)I"⟩
abbrev cX2_trim : ByteArray := prog_1_method_4_code
def yX2_trim : MethodName := ⟨RX2, "trim", "(I)I"⟩
abbrev cX2_hint : ByteArray := prog_1_method_5_code
def yX2_hint : MethodName := ⟨RX2, "hint", "(II)I"⟩
abbrev cX2_collect : ByteArray := prog_1_method_6_code
def yX2_collect : MethodName := ⟨RX2, "collect", "(I)I"⟩
abbrev cX2_tidy : ByteArray := prog_1_method_7_code
def yX2_tidy : MethodName := ⟨RX2, "tidy", "(I)I"⟩
abbrev cX2_set : ByteArray := prog_1_method_8_code
def yX2_set : MethodName := ⟨RX2, "set", "(II)I"⟩
abbrev cX2_append : ByteArray := prog_1_method_9_code
def yX2_append : MethodName := ⟨RX2, "append", "(I)I"⟩
abbrev cX2_clearBuffer : ByteArray := prog_1_method_10_code
def yX2_clearBuffer : MethodName := ⟨RX2, "clearBuffer", "()I"⟩
abbrev cX2_firstError : ByteArray := prog_1_method_11_code
def yX2_firstError : MethodName := ⟨RX2, "firstError", "()I"⟩
abbrev cX2_writeAll : ByteArray := prog_1_method_12_code
def yX2_writeAll : MethodName := ⟨RX2, "writeAll", "()I"⟩
abbrev cX2_undo : ByteArray := prog_1_method_13_code
def yX2_undo : MethodName := ⟨RX2, "undo", "()I"⟩
abbrev cX2_page : ByteArray := prog_1_method_14_code
def yX2_page : MethodName := ⟨RX2, "page", "(II)I"⟩
abbrev cX2_block : ByteArray := prog_1_method_15_code
def yX2_block : MethodName := ⟨RX2, "block", "(II)I"⟩
abbrev cX2_slot : ByteArray := prog_1_method_16_code
def yX2_slot : MethodName := ⟨RX2, "slot", "(IIZ)I"⟩
abbrev cX2_stream : ByteArray := prog_1_method_17_code
def yX2_stream : MethodName := ⟨RX2, "stream", "(II)I"⟩
abbrev cX2_count : ByteArray := prog_1_method_18_code
def yX2_count : MethodName := ⟨RX2, "count", "(I)I"⟩
abbrev cX2_setting : ByteArray := prog_1_method_19_code
def yX2_setting : MethodName := ⟨RX2, "setting", "(I)I"⟩
abbrev cX2_ifWritten : ByteArray := prog_1_method_20_code
def yX2_ifWritten : MethodName := ⟨RX2, "ifWritten", "(III)I"⟩
abbrev cX2_ifRewritten : ByteArray := prog_1_method_21_code
def yX2_ifRewritten : MethodName := ⟨RX2, "ifRewritten", "(I)I"⟩
abbrev cX2_bestRule : ByteArray := prog_1_method_22_code
def yX2_bestRule : MethodName := ⟨RX2, "bestRule", "(I)I"⟩
abbrev cX2_amplification : ByteArray := prog_1_method_23_code
def yX2_amplification : MethodName := ⟨RX2, "amplification", "()D"⟩
abbrev cX2_digest : ByteArray := prog_1_method_24_code
def yX2_digest : MethodName := ⟨RX2, "digest", "()J"⟩
abbrev cX2_isIn : ByteArray := prog_1_method_25_code
def yX2_isIn : MethodName := ⟨RX2, "isIn", "(II)Z"⟩
abbrev cX2_isSettingValue : ByteArray := prog_1_method_26_code
def yX2_isSettingValue : MethodName := ⟨RX2, "isSettingValue", "(II)Z"⟩
abbrev cX2_saveState : ByteArray := prog_1_method_27_code
def yX2_saveState : MethodName := ⟨RX2, "saveState", "()V"⟩
abbrev cX2_dropOldest : ByteArray := prog_1_method_28_code
def yX2_dropOldest : MethodName := ⟨RX2, "dropOldest", "()V"⟩
abbrev cX2_readBuffer : ByteArray := prog_1_method_29_code
def yX2_readBuffer : MethodName := ⟨RX2, "readBuffer", "()I"⟩
abbrev cX2_tryWriting : ByteArray := prog_1_method_30_code
def yX2_tryWriting : MethodName := ⟨RX2, "tryWriting", "(II)V"⟩
abbrev cX2_forecast : ByteArray := prog_1_method_31_code
def yX2_forecast : MethodName := ⟨RX2, "forecast", "(II)I"⟩
abbrev cX2_copiesOfRewriting : ByteArray := prog_1_method_32_code
def yX2_copiesOfRewriting : MethodName := ⟨RX2, "copiesOfRewriting", "(II)I"⟩
abbrev cX2_mixed : ByteArray := prog_1_method_33_code
def yX2_mixed : MethodName := ⟨RX2, "mixed", "(JJ)J"⟩
abbrev cX2_withPages : ByteArray := prog_1_method_34_code
def yX2_withPages : MethodName := ⟨RX2, "withPages", "(J)J"⟩
abbrev cX2_withBlocks : ByteArray := prog_1_method_35_code
def yX2_withBlocks : MethodName := ⟨RX2, "withBlocks", "(J)J"⟩
abbrev cX2_withStreams : ByteArray := prog_1_method_36_code
def yX2_withStreams : MethodName := ⟨RX2, "withStreams", "(J)J"⟩
abbrev cX2_withForecasts : ByteArray := prog_1_method_37_code
def yX2_withForecasts : MethodName := ⟨RX2, "withForecasts", "(J)J"⟩
abbrev cX2_bitsOf : ByteArray := prog_1_method_38_code
def yX2_bitsOf : MethodName := ⟨RX2, "bitsOf", "(D)J"⟩
def RX3 : String := "HintedPagesModel"
def TX3 : u_T := fun k => match k with
  | _ => ("", "", "", false)
def tyX3 : Nat → FieldType := fun k => match k with
  | _ => .int
abbrev wsX30 : List Cond := u_ws RX3 TX3 0
theorem nmX3 : ∀ a, a < 0 → ∀ b, b < 0 → a ≠ b → (TX3 a).2.1 ≠ (TX3 b).2.1 := by decide +kernel
theorem tyX3_ok : ∀ k, k < 0 → parseFieldDescriptor (TX3 k).2.2.1 = some (tyX3 k) := by decide +kernel
def RJx145de : String := "java/io/Serializable"
def TJx145de : u_T := fun k => match k with
  | _ => ("", "", "", false)
def tyJx145de : Nat → FieldType := fun k => match k with
  | _ => .int
abbrev wsJx145de0 : List Cond := u_ws RJx145de TJx145de 0
theorem nmJx145de : ∀ a, a < 0 → ∀ b, b < 0 → a ≠ b → (TJx145de a).2.1 ≠ (TJx145de b).2.1 := by decide +kernel
theorem tyJx145de_ok : ∀ k, k < 0 → parseFieldDescriptor (TJx145de k).2.2.1 = some (tyJx145de k) := by decide +kernel
def RJ6 : String := "java/lang/Integer"
def TJ6 : u_T := fun k => match k with
  | _ => ("", "", "", false)
def tyJ6 : Nat → FieldType := fun k => match k with
  | _ => .int
abbrev wsJ60 : List Cond := u_ws RJ6 TJ6 0
theorem nmJ6 : ∀ a, a < 0 → ∀ b, b < 0 → a ≠ b → (TJ6 a).2.1 ≠ (TJ6 b).2.1 := by decide +kernel
theorem tyJ6_ok : ∀ k, k < 0 → parseFieldDescriptor (TJ6 k).2.2.1 = some (tyJ6 k) := by decide +kernel
abbrev cJ6_bitCount_0f7a4 : ByteArray := prog_10_method_49_code
def yJ6_bitCount_0f7a4 : MethodName := ⟨RJ6, "bitCount", "(I)I"⟩
def RJ9 : String := "java/lang/Math"
def TJ9 : u_T := fun k => match k with
  | _ => ("", "", "", false)
def tyJ9 : Nat → FieldType := fun k => match k with
  | _ => .int
abbrev wsJ90 : List Cond := u_ws RJ9 TJ9 0
theorem nmJ9 : ∀ a, a < 0 → ∀ b, b < 0 → a ≠ b → (TJ9 a).2.1 ≠ (TJ9 b).2.1 := by decide +kernel
theorem tyJ9_ok : ∀ k, k < 0 → parseFieldDescriptor (TJ9 k).2.2.1 = some (tyJ9 k) := by decide +kernel
abbrev cJ9_max_7cf53 : ByteArray := prog_11_method_65_code
def yJ9_max_7cf53 : MethodName := ⟨RJ9, "max", "(II)I"⟩
abbrev cJ9_min_7cf53 : ByteArray := prog_11_method_69_code
def yJ9_min_7cf53 : MethodName := ⟨RJ9, "min", "(II)I"⟩
def RJ0 : String := "java/lang/String"
def TJ0 : u_T := fun k => match k with
  | _ => ("", "", "", false)
def tyJ0 : Nat → FieldType := fun k => match k with
  | _ => .int
abbrev wsJ00 : List Cond := u_ws RJ0 TJ0 0
theorem nmJ0 : ∀ a, a < 0 → ∀ b, b < 0 → a ≠ b → (TJ0 a).2.1 ≠ (TJ0 b).2.1 := by decide +kernel
theorem tyJ0_ok : ∀ k, k < 0 → parseFieldDescriptor (TJ0 k).2.2.1 = some (tyJ0 k) := by decide +kernel
def RJ10 : String := "java/lang/System"
def TJ10 : u_T := fun k => match k with
  | _ => ("", "", "", false)
def tyJ10 : Nat → FieldType := fun k => match k with
  | _ => .int
abbrev wsJ100 : List Cond := u_ws RJ10 TJ10 0
theorem nmJ10 : ∀ a, a < 0 → ∀ b, b < 0 → a ≠ b → (TJ10 a).2.1 ≠ (TJ10 b).2.1 := by decide +kernel
theorem tyJ10_ok : ∀ k, k < 0 → parseFieldDescriptor (TJ10 k).2.2.1 = some (tyJ10 k) := by decide +kernel
def RJ7 : String := "java/util/Arrays"
def TJ7 : u_T := fun k => match k with
  | _ => ("", "", "", false)
def tyJ7 : Nat → FieldType := fun k => match k with
  | _ => .int
abbrev wsJ70 : List Cond := u_ws RJ7 TJ7 0
theorem nmJ7 : ∀ a, a < 0 → ∀ b, b < 0 → a ≠ b → (TJ7 a).2.1 ≠ (TJ7 b).2.1 := by decide +kernel
theorem tyJ7_ok : ∀ k, k < 0 → parseFieldDescriptor (TJ7 k).2.2.1 = some (tyJ7 k) := by decide +kernel
abbrev cJ7_fill_53178 : ByteArray := prog_16_method_103_code
def yJ7_fill_53178 : MethodName := ⟨RJ7, "fill", "([II)V"⟩
def RL : String := "HintedPagesLaw"
abbrev cL_part : ByteArray := method_2_code
def yL_part : MethodName := ⟨RL, "part", "(II)I"⟩
abbrev cL_drawn : ByteArray := method_3_code
def yL_drawn : MethodName := ⟨RL, "drawn", "([II)I"⟩
abbrev cL_call : ByteArray := method_4_code
def yL_call : MethodName := ⟨RL, "call", "(LHintedPages;IIII)I"⟩
abbrev cL_told : ByteArray := method_5_code
def yL_told : MethodName := ⟨RL, "told", "(LHintedPages;IIII)I"⟩
abbrev cL_seen : ByteArray := method_6_code
def yL_seen : MethodName := ⟨RL, "seen", "(LHintedPages;)J"⟩
abbrev cL_refusesAny : ByteArray := method_7_code
def yL_refusesAny : MethodName := ⟨RL, "refusesAny", "(LHintedPages;Z)Z"⟩
abbrev cL_refused : ByteArray := method_8_code
def yL_refused : MethodName := ⟨RL, "refused", "(LHintedPages;)Z"⟩
abbrev cL_pages : ByteArray := method_9_code
def yL_pages : MethodName := ⟨RL, "pages", "()Z"⟩
abbrev cL_types : ByteArray := method_10_code
def yL_types : MethodName := ⟨RL, "types", "(LHintedPages;J)Z"⟩
abbrev cL_errorOf : ByteArray := method_11_code
def yL_errorOf : MethodName := ⟨RL, "errorOf", "(J)I"⟩
abbrev cL_texts : ByteArray := method_12_code
def yL_texts : MethodName := ⟨RL, "texts", "()Z"⟩
abbrev cL_law : ByteArray := code
def yL_law : MethodName := ⟨RL, "law", "([I)Z"⟩
def wsX0_init : List Cond := .code yX0_init cX0_init 1 none :: ([.methodLink RX0 3 objectInit, .instanceMethod objectInit, .code objectInit ⟨#[0xb1]⟩ 1 none, .fieldLink RX0 11 "HintedPages$Reader" "behind" "I", .fieldLink RX0 15 "HintedPages$Reader" "first" "I", .fieldLink RX0 18 "HintedPages$Reader" "last" "I", .fieldLink RX0 21 "HintedPages$Reader" "hint" "I"] ++ wsX00)
def wsX0_restart : List Cond := .code yX0_restart cX0_restart 1 none :: ([.fieldLink RX0 11 "HintedPages$Reader" "behind" "I"] ++ wsX00)
def wsX0_isPartWhole : List Cond := .code yX0_isPartWhole cX0_isPartWhole 1 (some .boolean) :: ([.fieldLink RX0 11 "HintedPages$Reader" "behind" "I", .fieldLink RX0 18 "HintedPages$Reader" "last" "I", .fieldLink RX0 15 "HintedPages$Reader" "first" "I"] ++ wsX00)
def wsX0_goesOn : List Cond := .code yX0_goesOn cX0_goesOn 3 (some .boolean) :: ([.fieldLink RX0 11 "HintedPages$Reader" "behind" "I"] ++ wsX00)
def wsX0_mayGrow : List Cond := .code yX0_mayGrow cX0_mayGrow 1 (some .boolean) :: ([])
def wsX0_acceptsFirst : List Cond := .code yX0_acceptsFirst cX0_acceptsFirst 2 (some .boolean) :: ([.fieldLink RX0 15 "HintedPages$Reader" "first" "I", .fieldLink RX0 18 "HintedPages$Reader" "last" "I", .methodLink RX0 39 yX0_mayGrow, .static yX0_mayGrow, .initialized RX0, .code yX0_mayGrow cX0_mayGrow 1 (some .boolean)] ++ wsX00)
def wsX0_acceptsLast : List Cond := .code yX0_acceptsLast cX0_acceptsLast 3 (some .boolean) :: ([.fieldLink RX0 18 "HintedPages$Reader" "last" "I", .methodLink RX0 28 yX0_goesOn, .instanceMethod yX0_goesOn, .selects RX0 yX0_goesOn yX0_goesOn, .initialized RX0, .code yX0_goesOn cX0_goesOn 3 (some .boolean), .fieldLink RX0 11 "HintedPages$Reader" "behind" "I"] ++ wsX00)
def wsX0_acceptsHint : List Cond := .code yX0_acceptsHint cX0_acceptsHint 2 (some .boolean) :: ([.fieldLink RX0 21 "HintedPages$Reader" "hint" "I", .methodLink RX0 28 yX0_goesOn, .instanceMethod yX0_goesOn, .selects RX0 yX0_goesOn yX0_goesOn, .initialized RX0, .code yX0_goesOn cX0_goesOn 3 (some .boolean), .fieldLink RX0 11 "HintedPages$Reader" "behind" "I"] ++ wsX00)
def wsX0_acceptsDigit : List Cond := .code yX0_acceptsDigit cX0_acceptsDigit 2 (some .boolean) :: ([.fieldLink RX0 11 "HintedPages$Reader" "behind" "I", .fieldLink RX0 15 "HintedPages$Reader" "first" "I", .fieldLink RX0 18 "HintedPages$Reader" "last" "I", .fieldLink RX0 21 "HintedPages$Reader" "hint" "I", .methodLink RX0 28 yX0_goesOn, .instanceMethod yX0_goesOn, .selects RX0 yX0_goesOn yX0_goesOn, .initialized RX0, .code yX0_goesOn cX0_goesOn 3 (some .boolean), .methodLink RX0 36 yX0_acceptsFirst, .instanceMethod yX0_acceptsFirst, .selects RX0 yX0_acceptsFirst yX0_acceptsFirst, .code yX0_acceptsFirst cX0_acceptsFirst 2 (some .boolean), .methodLink RX0 39 yX0_mayGrow, .static yX0_mayGrow, .code yX0_mayGrow cX0_mayGrow 1 (some .boolean), .methodLink RX0 42 yX0_acceptsLast, .instanceMethod yX0_acceptsLast, .selects RX0 yX0_acceptsLast yX0_acceptsLast, .code yX0_acceptsLast cX0_acceptsLast 3 (some .boolean), .methodLink RX0 46 yX0_acceptsHint, .instanceMethod yX0_acceptsHint, .selects RX0 yX0_acceptsHint yX0_acceptsHint, .code yX0_acceptsHint cX0_acceptsHint 2 (some .boolean)] ++ wsX00)
def wsX0_accepts_r1 : List Cond := [Cond.fieldLink RX0 11 "HintedPages$Reader" "behind" "I", Cond.fieldLink RX0 15 "HintedPages$Reader" "first" "I", Cond.methodLink RX0 24 yX0_acceptsDigit, Cond.instanceMethod yX0_acceptsDigit, Cond.selects RX0 yX0_acceptsDigit yX0_acceptsDigit, Cond.initialized RX0, Cond.code yX0_acceptsDigit cX0_acceptsDigit 2 (some .boolean), Cond.fieldLink RX0 18 "HintedPages$Reader" "last" "I", Cond.fieldLink RX0 21 "HintedPages$Reader" "hint" "I", Cond.methodLink RX0 28 yX0_goesOn, Cond.instanceMethod yX0_goesOn, Cond.selects RX0 yX0_goesOn yX0_goesOn, Cond.code yX0_goesOn cX0_goesOn 3 (some .boolean), Cond.methodLink RX0 36 yX0_acceptsFirst, Cond.instanceMethod yX0_acceptsFirst, Cond.selects RX0 yX0_acceptsFirst yX0_acceptsFirst, Cond.code yX0_acceptsFirst cX0_acceptsFirst 2 (some .boolean), Cond.methodLink RX0 39 yX0_mayGrow, Cond.static yX0_mayGrow, Cond.code yX0_mayGrow cX0_mayGrow 1 (some .boolean), Cond.methodLink RX0 42 yX0_acceptsLast, Cond.instanceMethod yX0_acceptsLast, Cond.selects RX0 yX0_acceptsLast yX0_acceptsLast, Cond.code yX0_acceptsLast cX0_acceptsLast 3 (some .boolean)]
def wsX0_accepts_r2 : List Cond := [Cond.methodLink RX0 46 yX0_acceptsHint, Cond.instanceMethod yX0_acceptsHint, Cond.selects RX0 yX0_acceptsHint yX0_acceptsHint, Cond.code yX0_acceptsHint cX0_acceptsHint 2 (some .boolean), Cond.methodLink RX0 32 yX0_isPartWhole, Cond.instanceMethod yX0_isPartWhole, Cond.selects RX0 yX0_isPartWhole yX0_isPartWhole, Cond.code yX0_isPartWhole cX0_isPartWhole 1 (some .boolean)]
def wsX0_accepts : List Cond := .code yX0_accepts cX0_accepts 2 (some .boolean) :: ((wsX0_accepts_r1 ++ wsX0_accepts_r2) ++ wsX00)
def wsJ7_fill_53178 : List Cond := .code yJ7_fill_53178 cJ7_fill_53178 4 none :: ([])
def wsX1_init_r1 : List Cond := [Cond.methodLink RX1 3 objectInit, Cond.instanceMethod objectInit, Cond.code objectInit ⟨#[0xb1]⟩ 1 none, Cond.arrayClass .int, Cond.fieldLink RX1 9 "HintedPages$Store" "placeOfPage" "[I", Cond.fieldLink RX1 15 "HintedPages$Store" "hintOfPage" "[I", Cond.fieldLink RX1 18 "HintedPages$Store" "writesOfPage" "[I", Cond.fieldLink RX1 21 "HintedPages$Store" "copiesOfPage" "[I", Cond.fieldLink RX1 24 "HintedPages$Store" "copiesSinceWrite" "[I", Cond.fieldLink RX1 27 "HintedPages$Store" "pageAt" "[I", Cond.fieldLink RX1 30 "HintedPages$Store" "streamOfBlock" "[I", Cond.fieldLink RX1 33 "HintedPages$Store" "programmedOfBlock" "[I", Cond.fieldLink RX1 36 "HintedPages$Store" "validOfBlock" "[I", Cond.fieldLink RX1 39 "HintedPages$Store" "erasuresOfBlock" "[I", Cond.fieldLink RX1 42 "HintedPages$Store" "closingOfBlock" "[I", Cond.fieldLink RX1 45 "HintedPages$Store" "openOfStream" "[I", Cond.fieldLink RX1 48 "HintedPages$Store" "programmedOfStream" "[I", Cond.fieldLink RX1 51 "HintedPages$Store" "copiesOfStream" "[I", Cond.fieldLink RX1 54 "HintedPages$Store" "settings" "[I", Cond.fieldLink RX1 57 "HintedPages$Store" "freeBlocks" "I", Cond.fieldLink RX1 61 "HintedPages$Store" "closings" "I", Cond.methodLink RX1 64 yJ7_fill_53178, Cond.static yJ7_fill_53178, Cond.initialized RJ7]
def wsX1_init_r2 : List Cond := [Cond.code yJ7_fill_53178 cJ7_fill_53178 4 none]
def wsX1_init : List Cond := .code yX1_init cX1_init 1 none :: ((wsX1_init_r1 ++ wsX1_init_r2) ++ wsX10)
def wsX1_copyRow : List Cond := .code yX1_copyRow cX1_copyRow 2 none :: ([.methodLink RX1 74 Lib.Math.min.name, .static Lib.Math.min.name, .initialized "java/lang/Math", .code Lib.Math.min.name Lib.Math.min.code 2 (some .int), .methodLink RX1 80 arraycopyName, .native arraycopyName, .static arraycopyName, .initialized "java/lang/System"])
def wsX1_becomeLike_r1 : List Cond := [Cond.fieldLink RX1 9 "HintedPages$Store" "placeOfPage" "[I", Cond.fieldLink RX1 15 "HintedPages$Store" "hintOfPage" "[I", Cond.fieldLink RX1 18 "HintedPages$Store" "writesOfPage" "[I", Cond.fieldLink RX1 21 "HintedPages$Store" "copiesOfPage" "[I", Cond.fieldLink RX1 24 "HintedPages$Store" "copiesSinceWrite" "[I", Cond.fieldLink RX1 27 "HintedPages$Store" "pageAt" "[I", Cond.fieldLink RX1 30 "HintedPages$Store" "streamOfBlock" "[I", Cond.fieldLink RX1 33 "HintedPages$Store" "programmedOfBlock" "[I", Cond.fieldLink RX1 36 "HintedPages$Store" "validOfBlock" "[I", Cond.fieldLink RX1 39 "HintedPages$Store" "erasuresOfBlock" "[I", Cond.fieldLink RX1 42 "HintedPages$Store" "closingOfBlock" "[I", Cond.fieldLink RX1 45 "HintedPages$Store" "openOfStream" "[I", Cond.fieldLink RX1 48 "HintedPages$Store" "programmedOfStream" "[I", Cond.fieldLink RX1 51 "HintedPages$Store" "copiesOfStream" "[I", Cond.fieldLink RX1 54 "HintedPages$Store" "settings" "[I", Cond.fieldLink RX1 57 "HintedPages$Store" "freeBlocks" "I", Cond.fieldLink RX1 61 "HintedPages$Store" "closings" "I", Cond.methodLink RX1 70 yX1_copyRow, Cond.static yX1_copyRow, Cond.initialized RX1, Cond.code yX1_copyRow cX1_copyRow 2 none, Cond.methodLink RX1 74 Lib.Math.min.name, Cond.static Lib.Math.min.name, Cond.initialized "java/lang/Math"]
def wsX1_becomeLike_r2 : List Cond := [Cond.code Lib.Math.min.name Lib.Math.min.code 2 (some .int), Cond.methodLink RX1 80 arraycopyName, Cond.native arraycopyName, Cond.static arraycopyName, Cond.initialized "java/lang/System"]
def wsX1_becomeLike : List Cond := .code yX1_becomeLike cX1_becomeLike 2 none :: ((wsX1_becomeLike_r1 ++ wsX1_becomeLike_r2) ++ wsX10)
def wsX1_copies : List Cond := .code yX1_copies cX1_copies 1 (some .int) :: ([.fieldLink RX1 48 "HintedPages$Store" "programmedOfStream" "[I"] ++ wsX10)
def wsX1_rankOf : List Cond := .code yX1_rankOf cX1_rankOf 2 (some .int) :: ([.fieldLink RX1 54 "HintedPages$Store" "settings" "[I", .fieldLink RX1 42 "HintedPages$Store" "closingOfBlock" "[I", .fieldLink RX1 39 "HintedPages$Store" "erasuresOfBlock" "[I", .fieldLink RX1 36 "HintedPages$Store" "validOfBlock" "[I"] ++ wsX10)
def wsX1_victim : List Cond := .code yX1_victim cX1_victim 5 (some .int) :: ([.fieldLink RX1 33 "HintedPages$Store" "programmedOfBlock" "[I", .fieldLink RX1 36 "HintedPages$Store" "validOfBlock" "[I", .methodLink RX1 113 yX1_rankOf, .instanceMethod yX1_rankOf, .selects RX1 yX1_rankOf yX1_rankOf, .initialized RX1, .code yX1_rankOf cX1_rankOf 2 (some .int), .fieldLink RX1 54 "HintedPages$Store" "settings" "[I", .fieldLink RX1 42 "HintedPages$Store" "closingOfBlock" "[I", .fieldLink RX1 39 "HintedPages$Store" "erasuresOfBlock" "[I"] ++ wsX10)
def wsX1_validPageAt : List Cond := .code yX1_validPageAt cX1_validPageAt 3 (some .int) :: ([.fieldLink RX1 27 "HintedPages$Store" "pageAt" "[I", .fieldLink RX1 9 "HintedPages$Store" "placeOfPage" "[I"] ++ wsX10)
def wsX1_openBlock : List Cond := .code yX1_openBlock cX1_openBlock 4 (some .int) :: ([.fieldLink RX1 45 "HintedPages$Store" "openOfStream" "[I", .fieldLink RX1 30 "HintedPages$Store" "streamOfBlock" "[I", .fieldLink RX1 39 "HintedPages$Store" "erasuresOfBlock" "[I", .fieldLink RX1 57 "HintedPages$Store" "freeBlocks" "I"] ++ wsX10)
def wsX1_program : List Cond := .code yX1_program cX1_program 6 none :: ([.fieldLink RX1 33 "HintedPages$Store" "programmedOfBlock" "[I", .fieldLink RX1 9 "HintedPages$Store" "placeOfPage" "[I", .fieldLink RX1 36 "HintedPages$Store" "validOfBlock" "[I", .fieldLink RX1 27 "HintedPages$Store" "pageAt" "[I", .fieldLink RX1 48 "HintedPages$Store" "programmedOfStream" "[I", .fieldLink RX1 45 "HintedPages$Store" "openOfStream" "[I", .fieldLink RX1 42 "HintedPages$Store" "closingOfBlock" "[I", .fieldLink RX1 61 "HintedPages$Store" "closings" "I"] ++ wsX10)
def wsX1_erase : List Cond := .code yX1_erase cX1_erase 3 none :: ([.fieldLink RX1 27 "HintedPages$Store" "pageAt" "[I", .fieldLink RX1 33 "HintedPages$Store" "programmedOfBlock" "[I", .fieldLink RX1 36 "HintedPages$Store" "validOfBlock" "[I", .fieldLink RX1 30 "HintedPages$Store" "streamOfBlock" "[I", .fieldLink RX1 39 "HintedPages$Store" "erasuresOfBlock" "[I", .fieldLink RX1 57 "HintedPages$Store" "freeBlocks" "I"] ++ wsX10)
def wsX1_collectBlock_r1 : List Cond := [Cond.fieldLink RX1 21 "HintedPages$Store" "copiesOfPage" "[I", Cond.fieldLink RX1 24 "HintedPages$Store" "copiesSinceWrite" "[I", Cond.fieldLink RX1 51 "HintedPages$Store" "copiesOfStream" "[I", Cond.fieldLink RX1 15 "HintedPages$Store" "hintOfPage" "[I", Cond.methodLink RX1 116 yX1_validPageAt, Cond.instanceMethod yX1_validPageAt, Cond.selects RX1 yX1_validPageAt yX1_validPageAt, Cond.initialized RX1, Cond.code yX1_validPageAt cX1_validPageAt 3 (some .int), Cond.fieldLink RX1 27 "HintedPages$Store" "pageAt" "[I", Cond.fieldLink RX1 9 "HintedPages$Store" "placeOfPage" "[I", Cond.methodLink RX1 98 yX1_openBlock, Cond.instanceMethod yX1_openBlock, Cond.selects RX1 yX1_openBlock yX1_openBlock, Cond.code yX1_openBlock cX1_openBlock 4 (some .int), Cond.fieldLink RX1 45 "HintedPages$Store" "openOfStream" "[I", Cond.fieldLink RX1 30 "HintedPages$Store" "streamOfBlock" "[I", Cond.fieldLink RX1 39 "HintedPages$Store" "erasuresOfBlock" "[I", Cond.fieldLink RX1 57 "HintedPages$Store" "freeBlocks" "I", Cond.methodLink RX1 101 yX1_program, Cond.instanceMethod yX1_program, Cond.selects RX1 yX1_program yX1_program, Cond.code yX1_program cX1_program 6 none, Cond.fieldLink RX1 33 "HintedPages$Store" "programmedOfBlock" "[I"]
def wsX1_collectBlock_r2 : List Cond := [Cond.fieldLink RX1 36 "HintedPages$Store" "validOfBlock" "[I", Cond.fieldLink RX1 48 "HintedPages$Store" "programmedOfStream" "[I", Cond.fieldLink RX1 42 "HintedPages$Store" "closingOfBlock" "[I", Cond.fieldLink RX1 61 "HintedPages$Store" "closings" "I", Cond.methodLink RX1 119 yX1_erase, Cond.instanceMethod yX1_erase, Cond.selects RX1 yX1_erase yX1_erase, Cond.code yX1_erase cX1_erase 3 none]
def wsX1_collectBlock : List Cond := .code yX1_collectBlock cX1_collectBlock 4 none :: ((wsX1_collectBlock_r1 ++ wsX1_collectBlock_r2) ++ wsX10)
def wsX1_collectVictims_r1 : List Cond := [Cond.fieldLink RX1 57 "HintedPages$Store" "freeBlocks" "I", Cond.constant RX1 105 (1000000), Cond.methodLink RX1 106 yX1_victim, Cond.instanceMethod yX1_victim, Cond.selects RX1 yX1_victim yX1_victim, Cond.initialized RX1, Cond.code yX1_victim cX1_victim 5 (some .int), Cond.fieldLink RX1 33 "HintedPages$Store" "programmedOfBlock" "[I", Cond.fieldLink RX1 36 "HintedPages$Store" "validOfBlock" "[I", Cond.methodLink RX1 113 yX1_rankOf, Cond.instanceMethod yX1_rankOf, Cond.selects RX1 yX1_rankOf yX1_rankOf, Cond.code yX1_rankOf cX1_rankOf 2 (some .int), Cond.fieldLink RX1 54 "HintedPages$Store" "settings" "[I", Cond.fieldLink RX1 42 "HintedPages$Store" "closingOfBlock" "[I", Cond.fieldLink RX1 39 "HintedPages$Store" "erasuresOfBlock" "[I", Cond.methodLink RX1 109 yX1_collectBlock, Cond.instanceMethod yX1_collectBlock, Cond.selects RX1 yX1_collectBlock yX1_collectBlock, Cond.code yX1_collectBlock cX1_collectBlock 4 none, Cond.fieldLink RX1 21 "HintedPages$Store" "copiesOfPage" "[I", Cond.fieldLink RX1 24 "HintedPages$Store" "copiesSinceWrite" "[I", Cond.fieldLink RX1 51 "HintedPages$Store" "copiesOfStream" "[I", Cond.fieldLink RX1 15 "HintedPages$Store" "hintOfPage" "[I"]
def wsX1_collectVictims_r2 : List Cond := [Cond.methodLink RX1 116 yX1_validPageAt, Cond.instanceMethod yX1_validPageAt, Cond.selects RX1 yX1_validPageAt yX1_validPageAt, Cond.code yX1_validPageAt cX1_validPageAt 3 (some .int), Cond.fieldLink RX1 27 "HintedPages$Store" "pageAt" "[I", Cond.fieldLink RX1 9 "HintedPages$Store" "placeOfPage" "[I", Cond.methodLink RX1 98 yX1_openBlock, Cond.instanceMethod yX1_openBlock, Cond.selects RX1 yX1_openBlock yX1_openBlock, Cond.code yX1_openBlock cX1_openBlock 4 (some .int), Cond.fieldLink RX1 45 "HintedPages$Store" "openOfStream" "[I", Cond.fieldLink RX1 30 "HintedPages$Store" "streamOfBlock" "[I", Cond.methodLink RX1 101 yX1_program, Cond.instanceMethod yX1_program, Cond.selects RX1 yX1_program yX1_program, Cond.code yX1_program cX1_program 6 none, Cond.fieldLink RX1 48 "HintedPages$Store" "programmedOfStream" "[I", Cond.fieldLink RX1 61 "HintedPages$Store" "closings" "I", Cond.methodLink RX1 119 yX1_erase, Cond.instanceMethod yX1_erase, Cond.selects RX1 yX1_erase yX1_erase, Cond.code yX1_erase cX1_erase 3 none]
def wsX1_collectVictims : List Cond := .code yX1_collectVictims cX1_collectVictims 4 (some .int) :: ((wsX1_collectVictims_r1 ++ wsX1_collectVictims_r2) ++ wsX10)
def wsX1_writePage_r1 : List Cond := [Cond.fieldLink RX1 54 "HintedPages$Store" "settings" "[I", Cond.fieldLink RX1 15 "HintedPages$Store" "hintOfPage" "[I", Cond.fieldLink RX1 24 "HintedPages$Store" "copiesSinceWrite" "[I", Cond.fieldLink RX1 18 "HintedPages$Store" "writesOfPage" "[I", Cond.methodLink RX1 94 yX1_collectVictims, Cond.instanceMethod yX1_collectVictims, Cond.selects RX1 yX1_collectVictims yX1_collectVictims, Cond.initialized RX1, Cond.code yX1_collectVictims cX1_collectVictims 4 (some .int), Cond.fieldLink RX1 57 "HintedPages$Store" "freeBlocks" "I", Cond.constant RX1 105 (1000000), Cond.methodLink RX1 106 yX1_victim, Cond.instanceMethod yX1_victim, Cond.selects RX1 yX1_victim yX1_victim, Cond.code yX1_victim cX1_victim 5 (some .int), Cond.fieldLink RX1 33 "HintedPages$Store" "programmedOfBlock" "[I", Cond.fieldLink RX1 36 "HintedPages$Store" "validOfBlock" "[I", Cond.methodLink RX1 113 yX1_rankOf, Cond.instanceMethod yX1_rankOf, Cond.selects RX1 yX1_rankOf yX1_rankOf, Cond.code yX1_rankOf cX1_rankOf 2 (some .int), Cond.fieldLink RX1 42 "HintedPages$Store" "closingOfBlock" "[I", Cond.fieldLink RX1 39 "HintedPages$Store" "erasuresOfBlock" "[I", Cond.methodLink RX1 109 yX1_collectBlock]
def wsX1_writePage_r2 : List Cond := [Cond.instanceMethod yX1_collectBlock, Cond.selects RX1 yX1_collectBlock yX1_collectBlock, Cond.code yX1_collectBlock cX1_collectBlock 4 none, Cond.fieldLink RX1 21 "HintedPages$Store" "copiesOfPage" "[I", Cond.fieldLink RX1 51 "HintedPages$Store" "copiesOfStream" "[I", Cond.methodLink RX1 116 yX1_validPageAt, Cond.instanceMethod yX1_validPageAt, Cond.selects RX1 yX1_validPageAt yX1_validPageAt, Cond.code yX1_validPageAt cX1_validPageAt 3 (some .int), Cond.fieldLink RX1 27 "HintedPages$Store" "pageAt" "[I", Cond.fieldLink RX1 9 "HintedPages$Store" "placeOfPage" "[I", Cond.methodLink RX1 98 yX1_openBlock, Cond.instanceMethod yX1_openBlock, Cond.selects RX1 yX1_openBlock yX1_openBlock, Cond.code yX1_openBlock cX1_openBlock 4 (some .int), Cond.fieldLink RX1 45 "HintedPages$Store" "openOfStream" "[I", Cond.fieldLink RX1 30 "HintedPages$Store" "streamOfBlock" "[I", Cond.methodLink RX1 101 yX1_program, Cond.instanceMethod yX1_program, Cond.selects RX1 yX1_program yX1_program, Cond.code yX1_program cX1_program 6 none, Cond.fieldLink RX1 48 "HintedPages$Store" "programmedOfStream" "[I", Cond.fieldLink RX1 61 "HintedPages$Store" "closings" "I", Cond.methodLink RX1 119 yX1_erase]
def wsX1_writePage_r3 : List Cond := [Cond.instanceMethod yX1_erase, Cond.selects RX1 yX1_erase yX1_erase, Cond.code yX1_erase cX1_erase 3 none]
def wsX1_writePage : List Cond := .code yX1_writePage cX1_writePage 3 none :: ((wsX1_writePage_r1 ++ (wsX1_writePage_r2 ++ wsX1_writePage_r3)) ++ wsX10)
def wsX1_writePages_r1 : List Cond := [Cond.methodLink RX1 86 yX1_copies, Cond.instanceMethod yX1_copies, Cond.selects RX1 yX1_copies yX1_copies, Cond.initialized RX1, Cond.code yX1_copies cX1_copies 1 (some .int), Cond.fieldLink RX1 48 "HintedPages$Store" "programmedOfStream" "[I", Cond.methodLink RX1 90 yX1_writePage, Cond.instanceMethod yX1_writePage, Cond.selects RX1 yX1_writePage yX1_writePage, Cond.code yX1_writePage cX1_writePage 3 none, Cond.fieldLink RX1 54 "HintedPages$Store" "settings" "[I", Cond.fieldLink RX1 15 "HintedPages$Store" "hintOfPage" "[I", Cond.fieldLink RX1 24 "HintedPages$Store" "copiesSinceWrite" "[I", Cond.fieldLink RX1 18 "HintedPages$Store" "writesOfPage" "[I", Cond.methodLink RX1 94 yX1_collectVictims, Cond.instanceMethod yX1_collectVictims, Cond.selects RX1 yX1_collectVictims yX1_collectVictims, Cond.code yX1_collectVictims cX1_collectVictims 4 (some .int), Cond.fieldLink RX1 57 "HintedPages$Store" "freeBlocks" "I", Cond.constant RX1 105 (1000000), Cond.methodLink RX1 106 yX1_victim, Cond.instanceMethod yX1_victim, Cond.selects RX1 yX1_victim yX1_victim, Cond.code yX1_victim cX1_victim 5 (some .int)]
def wsX1_writePages_r2 : List Cond := [Cond.fieldLink RX1 33 "HintedPages$Store" "programmedOfBlock" "[I", Cond.fieldLink RX1 36 "HintedPages$Store" "validOfBlock" "[I", Cond.methodLink RX1 113 yX1_rankOf, Cond.instanceMethod yX1_rankOf, Cond.selects RX1 yX1_rankOf yX1_rankOf, Cond.code yX1_rankOf cX1_rankOf 2 (some .int), Cond.fieldLink RX1 42 "HintedPages$Store" "closingOfBlock" "[I", Cond.fieldLink RX1 39 "HintedPages$Store" "erasuresOfBlock" "[I", Cond.methodLink RX1 109 yX1_collectBlock, Cond.instanceMethod yX1_collectBlock, Cond.selects RX1 yX1_collectBlock yX1_collectBlock, Cond.code yX1_collectBlock cX1_collectBlock 4 none, Cond.fieldLink RX1 21 "HintedPages$Store" "copiesOfPage" "[I", Cond.fieldLink RX1 51 "HintedPages$Store" "copiesOfStream" "[I", Cond.methodLink RX1 116 yX1_validPageAt, Cond.instanceMethod yX1_validPageAt, Cond.selects RX1 yX1_validPageAt yX1_validPageAt, Cond.code yX1_validPageAt cX1_validPageAt 3 (some .int), Cond.fieldLink RX1 27 "HintedPages$Store" "pageAt" "[I", Cond.fieldLink RX1 9 "HintedPages$Store" "placeOfPage" "[I", Cond.methodLink RX1 98 yX1_openBlock, Cond.instanceMethod yX1_openBlock, Cond.selects RX1 yX1_openBlock yX1_openBlock, Cond.code yX1_openBlock cX1_openBlock 4 (some .int)]
def wsX1_writePages_r3 : List Cond := [Cond.fieldLink RX1 45 "HintedPages$Store" "openOfStream" "[I", Cond.fieldLink RX1 30 "HintedPages$Store" "streamOfBlock" "[I", Cond.methodLink RX1 101 yX1_program, Cond.instanceMethod yX1_program, Cond.selects RX1 yX1_program yX1_program, Cond.code yX1_program cX1_program 6 none, Cond.fieldLink RX1 61 "HintedPages$Store" "closings" "I", Cond.methodLink RX1 119 yX1_erase, Cond.instanceMethod yX1_erase, Cond.selects RX1 yX1_erase yX1_erase, Cond.code yX1_erase cX1_erase 3 none]
def wsX1_writePages : List Cond := .code yX1_writePages cX1_writePages 6 (some .int) :: ((wsX1_writePages_r1 ++ (wsX1_writePages_r2 ++ wsX1_writePages_r3)) ++ wsX10)
def wsX1_forget : List Cond := .code yX1_forget cX1_forget 3 none :: ([.fieldLink RX1 9 "HintedPages$Store" "placeOfPage" "[I", .fieldLink RX1 36 "HintedPages$Store" "validOfBlock" "[I", .fieldLink RX1 24 "HintedPages$Store" "copiesSinceWrite" "[I"] ++ wsX10)
def wsX1_isWritten : List Cond := .code yX1_isWritten cX1_isWritten 2 (some .boolean) :: ([.fieldLink RX1 9 "HintedPages$Store" "placeOfPage" "[I"] ++ wsX10)
def wsX1_blockOf : List Cond := .code yX1_blockOf cX1_blockOf 2 (some .int) :: ([.fieldLink RX1 9 "HintedPages$Store" "placeOfPage" "[I", .methodLink RX1 122 yX1_isWritten, .instanceMethod yX1_isWritten, .selects RX1 yX1_isWritten yX1_isWritten, .initialized RX1, .code yX1_isWritten cX1_isWritten 2 (some .boolean)] ++ wsX10)
def wsX1_stateOf : List Cond := .code yX1_stateOf cX1_stateOf 2 (some .int) :: ([.fieldLink RX1 30 "HintedPages$Store" "streamOfBlock" "[I", .fieldLink RX1 33 "HintedPages$Store" "programmedOfBlock" "[I"] ++ wsX10)
def wsX1_pageProperty : List Cond := .code yX1_pageProperty cX1_pageProperty 3 (some .int) :: ([.fieldLink RX1 9 "HintedPages$Store" "placeOfPage" "[I", .fieldLink RX1 15 "HintedPages$Store" "hintOfPage" "[I", .fieldLink RX1 18 "HintedPages$Store" "writesOfPage" "[I", .fieldLink RX1 21 "HintedPages$Store" "copiesOfPage" "[I", .fieldLink RX1 24 "HintedPages$Store" "copiesSinceWrite" "[I", .methodLink RX1 126 yX1_blockOf, .instanceMethod yX1_blockOf, .selects RX1 yX1_blockOf yX1_blockOf, .initialized RX1, .code yX1_blockOf cX1_blockOf 2 (some .int), .methodLink RX1 122 yX1_isWritten, .instanceMethod yX1_isWritten, .selects RX1 yX1_isWritten yX1_isWritten, .code yX1_isWritten cX1_isWritten 2 (some .boolean)] ++ wsX10)
def wsX1_closedAheadOf : List Cond := .code yX1_closedAheadOf cX1_closedAheadOf 4 (some .int) :: ([.fieldLink RX1 42 "HintedPages$Store" "closingOfBlock" "[I", .methodLink RX1 129 yX1_stateOf, .instanceMethod yX1_stateOf, .selects RX1 yX1_stateOf yX1_stateOf, .initialized RX1, .code yX1_stateOf cX1_stateOf 2 (some .int), .fieldLink RX1 30 "HintedPages$Store" "streamOfBlock" "[I", .fieldLink RX1 33 "HintedPages$Store" "programmedOfBlock" "[I"] ++ wsX10)
def wsJ6_bitCount_0f7a4 : List Cond := .code yJ6_bitCount_0f7a4 cJ6_bitCount_0f7a4 1 (some .int) :: ([.constant RJ6 265 (1431655765), .constant RJ6 266 (858993459), .constant RJ6 267 (252645135)])
def wsX1_unlikeHintsOf : List Cond := .code yX1_unlikeHintsOf cX1_unlikeHintsOf 5 (some .int) :: ([.fieldLink RX1 15 "HintedPages$Store" "hintOfPage" "[I", .methodLink RX1 116 yX1_validPageAt, .instanceMethod yX1_validPageAt, .selects RX1 yX1_validPageAt yX1_validPageAt, .initialized RX1, .code yX1_validPageAt cX1_validPageAt 3 (some .int), .fieldLink RX1 27 "HintedPages$Store" "pageAt" "[I", .fieldLink RX1 9 "HintedPages$Store" "placeOfPage" "[I", .methodLink RX1 138 yJ6_bitCount_0f7a4, .static yJ6_bitCount_0f7a4, .initialized RJ6, .code yJ6_bitCount_0f7a4 cJ6_bitCount_0f7a4 1 (some .int), .constant RJ6 265 (1431655765), .constant RJ6 266 (858993459), .constant RJ6 267 (252645135)] ++ wsX10)
def wsX1_blockProperty_r1 : List Cond := [Cond.fieldLink RX1 30 "HintedPages$Store" "streamOfBlock" "[I", Cond.fieldLink RX1 36 "HintedPages$Store" "validOfBlock" "[I", Cond.fieldLink RX1 33 "HintedPages$Store" "programmedOfBlock" "[I", Cond.fieldLink RX1 39 "HintedPages$Store" "erasuresOfBlock" "[I", Cond.methodLink RX1 129 yX1_stateOf, Cond.instanceMethod yX1_stateOf, Cond.selects RX1 yX1_stateOf yX1_stateOf, Cond.initialized RX1, Cond.code yX1_stateOf cX1_stateOf 2 (some .int), Cond.methodLink RX1 132 yX1_closedAheadOf, Cond.instanceMethod yX1_closedAheadOf, Cond.selects RX1 yX1_closedAheadOf yX1_closedAheadOf, Cond.code yX1_closedAheadOf cX1_closedAheadOf 4 (some .int), Cond.fieldLink RX1 42 "HintedPages$Store" "closingOfBlock" "[I", Cond.methodLink RX1 135 yX1_unlikeHintsOf, Cond.instanceMethod yX1_unlikeHintsOf, Cond.selects RX1 yX1_unlikeHintsOf yX1_unlikeHintsOf, Cond.code yX1_unlikeHintsOf cX1_unlikeHintsOf 5 (some .int), Cond.fieldLink RX1 15 "HintedPages$Store" "hintOfPage" "[I", Cond.methodLink RX1 116 yX1_validPageAt, Cond.instanceMethod yX1_validPageAt, Cond.selects RX1 yX1_validPageAt yX1_validPageAt, Cond.code yX1_validPageAt cX1_validPageAt 3 (some .int), Cond.fieldLink RX1 27 "HintedPages$Store" "pageAt" "[I"]
def wsX1_blockProperty_r2 : List Cond := [Cond.fieldLink RX1 9 "HintedPages$Store" "placeOfPage" "[I", Cond.methodLink RX1 138 yJ6_bitCount_0f7a4, Cond.static yJ6_bitCount_0f7a4, Cond.initialized RJ6, Cond.code yJ6_bitCount_0f7a4 cJ6_bitCount_0f7a4 1 (some .int), Cond.constant RJ6 265 (1431655765), Cond.constant RJ6 266 (858993459), Cond.constant RJ6 267 (252645135)]
def wsX1_blockProperty : List Cond := .code yX1_blockProperty cX1_blockProperty 3 (some .int) :: ((wsX1_blockProperty_r1 ++ wsX1_blockProperty_r2) ++ wsX10)
def wsX1_pagesWithHint : List Cond := .code yX1_pagesWithHint cX1_pagesWithHint 4 (some .int) :: ([.fieldLink RX1 15 "HintedPages$Store" "hintOfPage" "[I", .methodLink RX1 122 yX1_isWritten, .instanceMethod yX1_isWritten, .selects RX1 yX1_isWritten yX1_isWritten, .initialized RX1, .code yX1_isWritten cX1_isWritten 2 (some .boolean), .fieldLink RX1 9 "HintedPages$Store" "placeOfPage" "[I"] ++ wsX10)
def wsX1_percentOf : List Cond := .code yX1_percentOf cX1_percentOf 3 (some .int) :: ([.fieldLink RX1 48 "HintedPages$Store" "programmedOfStream" "[I", .fieldLink RX1 51 "HintedPages$Store" "copiesOfStream" "[I"] ++ wsX10)
def wsX1_streamProperty : List Cond := .code yX1_streamProperty cX1_streamProperty 3 (some .int) :: ([.fieldLink RX1 45 "HintedPages$Store" "openOfStream" "[I", .fieldLink RX1 48 "HintedPages$Store" "programmedOfStream" "[I", .fieldLink RX1 51 "HintedPages$Store" "copiesOfStream" "[I", .methodLink RX1 143 yX1_pagesWithHint, .instanceMethod yX1_pagesWithHint, .selects RX1 yX1_pagesWithHint yX1_pagesWithHint, .initialized RX1, .code yX1_pagesWithHint cX1_pagesWithHint 4 (some .int), .fieldLink RX1 15 "HintedPages$Store" "hintOfPage" "[I", .methodLink RX1 122 yX1_isWritten, .instanceMethod yX1_isWritten, .selects RX1 yX1_isWritten yX1_isWritten, .code yX1_isWritten cX1_isWritten 2 (some .boolean), .fieldLink RX1 9 "HintedPages$Store" "placeOfPage" "[I", .methodLink RX1 146 yX1_percentOf, .instanceMethod yX1_percentOf, .selects RX1 yX1_percentOf yX1_percentOf, .code yX1_percentOf cX1_percentOf 3 (some .int)] ++ wsX10)
def wsX1_sum : List Cond := .code yX1_sum cX1_sum 6 (some .int) :: ([])
def wsX1_openBlocks : List Cond := .code yX1_openBlocks cX1_openBlocks 3 (some .int) :: ([.fieldLink RX1 45 "HintedPages$Store" "openOfStream" "[I"] ++ wsX10)
def wsX1_writes : List Cond := .code yX1_writes cX1_writes 1 (some .int) :: ([.fieldLink RX1 18 "HintedPages$Store" "writesOfPage" "[I", .methodLink RX1 149 yX1_sum, .static yX1_sum, .initialized RX1, .code yX1_sum cX1_sum 6 (some .int)] ++ wsX10)
def wsX1_erasures : List Cond := .code yX1_erasures cX1_erasures 1 (some .int) :: ([.fieldLink RX1 39 "HintedPages$Store" "erasuresOfBlock" "[I", .methodLink RX1 149 yX1_sum, .static yX1_sum, .initialized RX1, .code yX1_sum cX1_sum 6 (some .int)] ++ wsX10)
def wsX1_spreadOfErasures : List Cond := .code yX1_spreadOfErasures cX1_spreadOfErasures 4 (some .int) :: ([.fieldLink RX1 39 "HintedPages$Store" "erasuresOfBlock" "[I", .methodLink RX1 165 Lib.Math.max.name, .static Lib.Math.max.name, .initialized "java/lang/Math", .code Lib.Math.max.name Lib.Math.max.code 2 (some .int), .methodLink RX1 74 Lib.Math.min.name, .static Lib.Math.min.name, .code Lib.Math.min.name Lib.Math.min.code 2 (some .int)] ++ wsX10)
def wsX1_total_r1 : List Cond := [Cond.fieldLink RX1 36 "HintedPages$Store" "validOfBlock" "[I", Cond.fieldLink RX1 57 "HintedPages$Store" "freeBlocks" "I", Cond.fieldLink RX1 33 "HintedPages$Store" "programmedOfBlock" "[I", Cond.methodLink RX1 149 yX1_sum, Cond.static yX1_sum, Cond.initialized RX1, Cond.code yX1_sum cX1_sum 6 (some .int), Cond.methodLink RX1 153 yX1_openBlocks, Cond.instanceMethod yX1_openBlocks, Cond.selects RX1 yX1_openBlocks yX1_openBlocks, Cond.code yX1_openBlocks cX1_openBlocks 3 (some .int), Cond.fieldLink RX1 45 "HintedPages$Store" "openOfStream" "[I", Cond.methodLink RX1 156 yX1_writes, Cond.instanceMethod yX1_writes, Cond.selects RX1 yX1_writes yX1_writes, Cond.code yX1_writes cX1_writes 1 (some .int), Cond.fieldLink RX1 18 "HintedPages$Store" "writesOfPage" "[I", Cond.methodLink RX1 86 yX1_copies, Cond.instanceMethod yX1_copies, Cond.selects RX1 yX1_copies yX1_copies, Cond.code yX1_copies cX1_copies 1 (some .int), Cond.fieldLink RX1 48 "HintedPages$Store" "programmedOfStream" "[I", Cond.methodLink RX1 159 yX1_erasures, Cond.instanceMethod yX1_erasures]
def wsX1_total_r2 : List Cond := [Cond.selects RX1 yX1_erasures yX1_erasures, Cond.code yX1_erasures cX1_erasures 1 (some .int), Cond.fieldLink RX1 39 "HintedPages$Store" "erasuresOfBlock" "[I", Cond.methodLink RX1 162 yX1_spreadOfErasures, Cond.instanceMethod yX1_spreadOfErasures, Cond.selects RX1 yX1_spreadOfErasures yX1_spreadOfErasures, Cond.code yX1_spreadOfErasures cX1_spreadOfErasures 4 (some .int), Cond.methodLink RX1 165 Lib.Math.max.name, Cond.static Lib.Math.max.name, Cond.initialized "java/lang/Math", Cond.code Lib.Math.max.name Lib.Math.max.code 2 (some .int), Cond.methodLink RX1 74 Lib.Math.min.name, Cond.static Lib.Math.min.name, Cond.code Lib.Math.min.name Lib.Math.min.code 2 (some .int), Cond.methodLink RX1 106 yX1_victim, Cond.instanceMethod yX1_victim, Cond.selects RX1 yX1_victim yX1_victim, Cond.code yX1_victim cX1_victim 5 (some .int), Cond.methodLink RX1 113 yX1_rankOf, Cond.instanceMethod yX1_rankOf, Cond.selects RX1 yX1_rankOf yX1_rankOf, Cond.code yX1_rankOf cX1_rankOf 2 (some .int), Cond.fieldLink RX1 54 "HintedPages$Store" "settings" "[I", Cond.fieldLink RX1 42 "HintedPages$Store" "closingOfBlock" "[I"]
def wsX1_total : List Cond := .code yX1_total cX1_total 2 (some .int) :: ((wsX1_total_r1 ++ wsX1_total_r2) ++ wsX10)
def wsX2_init_r1 : List Cond := [Cond.methodLink RX2 1 objectInit, Cond.instanceMethod objectInit, Cond.code objectInit ⟨#[0xb1]⟩ 1 none, Cond.classLink RX2 7 RX1, Cond.instantiable RX1 17, Cond.initialized RX1, Cond.fieldLink RX2 10 "HintedPages" "store" "LHintedPages$Store;", Cond.fieldLink RX2 16 "HintedPages" "trial" "LHintedPages$Store;", Cond.fieldLink RX2 19 "HintedPages" "saved" "[LHintedPages$Store;", Cond.fieldLink RX2 23 "HintedPages" "savedStates" "I", Cond.arrayClass .int, Cond.fieldLink RX2 27 "HintedPages" "codes" "[I", Cond.fieldLink RX2 31 "HintedPages" "length" "I", Cond.classLink RX2 34 RX0, Cond.instantiable RX0 4, Cond.initialized RX0, Cond.fieldLink RX2 37 "HintedPages" "reader" "LHintedPages$Reader;", Cond.methodLink RX2 9 yX1_init, Cond.instanceMethod yX1_init, Cond.code yX1_init cX1_init 1 none, Cond.methodLink RX1 3 objectInit, Cond.fieldLink RX1 9 "HintedPages$Store" "placeOfPage" "[I", Cond.fieldLink RX1 15 "HintedPages$Store" "hintOfPage" "[I", Cond.fieldLink RX1 18 "HintedPages$Store" "writesOfPage" "[I"]
def wsX2_init_r2 : List Cond := [Cond.fieldLink RX1 21 "HintedPages$Store" "copiesOfPage" "[I", Cond.fieldLink RX1 24 "HintedPages$Store" "copiesSinceWrite" "[I", Cond.fieldLink RX1 27 "HintedPages$Store" "pageAt" "[I", Cond.fieldLink RX1 30 "HintedPages$Store" "streamOfBlock" "[I", Cond.fieldLink RX1 33 "HintedPages$Store" "programmedOfBlock" "[I", Cond.fieldLink RX1 36 "HintedPages$Store" "validOfBlock" "[I", Cond.fieldLink RX1 39 "HintedPages$Store" "erasuresOfBlock" "[I", Cond.fieldLink RX1 42 "HintedPages$Store" "closingOfBlock" "[I", Cond.fieldLink RX1 45 "HintedPages$Store" "openOfStream" "[I", Cond.fieldLink RX1 48 "HintedPages$Store" "programmedOfStream" "[I", Cond.fieldLink RX1 51 "HintedPages$Store" "copiesOfStream" "[I", Cond.fieldLink RX1 54 "HintedPages$Store" "settings" "[I", Cond.fieldLink RX1 57 "HintedPages$Store" "freeBlocks" "I", Cond.fieldLink RX1 61 "HintedPages$Store" "closings" "I", Cond.methodLink RX1 64 yJ7_fill_53178, Cond.static yJ7_fill_53178, Cond.initialized RJ7, Cond.code yJ7_fill_53178 cJ7_fill_53178 4 none, Cond.instanceMethod yX0_init, Cond.code yX0_init cX0_init 1 none, Cond.methodLink RX0 3 objectInit, Cond.fieldLink RX0 11 "HintedPages$Reader" "behind" "I", Cond.fieldLink RX0 15 "HintedPages$Reader" "first" "I", Cond.fieldLink RX0 18 "HintedPages$Reader" "last" "I"]
def wsX2_init_r3 : List Cond := [Cond.fieldLink RX0 21 "HintedPages$Reader" "hint" "I"]
def wsX2_init : List Cond := .code yX2_init cX2_init 2 none :: ((wsX2_init_r1 ++ (wsX2_init_r2 ++ wsX2_init_r3)) ++ wsX10 ++ wsX20 ++ wsX00)
def wsX2_isIn : List Cond := .code yX2_isIn cX2_isIn 2 (some .boolean) :: ([])
def wsX2_dropOldest : List Cond := .code yX2_dropOldest cX2_dropOldest 3 none :: ([.fieldLink RX2 19 "HintedPages" "saved" "[LHintedPages$Store;", .fieldLink RX2 23 "HintedPages" "savedStates" "I"] ++ wsX20)
def wsX2_saveState_r1 : List Cond := [Cond.fieldLink RX2 23 "HintedPages" "savedStates" "I", Cond.fieldLink RX2 19 "HintedPages" "saved" "[LHintedPages$Store;", Cond.fieldLink RX2 10 "HintedPages" "store" "LHintedPages$Store;", Cond.methodLink RX2 221 yX2_dropOldest, Cond.instanceMethod yX2_dropOldest, Cond.selects RX2 yX2_dropOldest yX2_dropOldest, Cond.initialized RX2, Cond.code yX2_dropOldest cX2_dropOldest 3 none, Cond.methodLink RX2 224 yX1_becomeLike, Cond.instanceMethod yX1_becomeLike, Cond.selects RX1 yX1_becomeLike yX1_becomeLike, Cond.initialized RX1, Cond.code yX1_becomeLike cX1_becomeLike 2 none, Cond.fieldLink RX1 9 "HintedPages$Store" "placeOfPage" "[I", Cond.fieldLink RX1 15 "HintedPages$Store" "hintOfPage" "[I", Cond.fieldLink RX1 18 "HintedPages$Store" "writesOfPage" "[I", Cond.fieldLink RX1 21 "HintedPages$Store" "copiesOfPage" "[I", Cond.fieldLink RX1 24 "HintedPages$Store" "copiesSinceWrite" "[I", Cond.fieldLink RX1 27 "HintedPages$Store" "pageAt" "[I", Cond.fieldLink RX1 30 "HintedPages$Store" "streamOfBlock" "[I", Cond.fieldLink RX1 33 "HintedPages$Store" "programmedOfBlock" "[I", Cond.fieldLink RX1 36 "HintedPages$Store" "validOfBlock" "[I", Cond.fieldLink RX1 39 "HintedPages$Store" "erasuresOfBlock" "[I", Cond.fieldLink RX1 42 "HintedPages$Store" "closingOfBlock" "[I"]
def wsX2_saveState_r2 : List Cond := [Cond.fieldLink RX1 45 "HintedPages$Store" "openOfStream" "[I", Cond.fieldLink RX1 48 "HintedPages$Store" "programmedOfStream" "[I", Cond.fieldLink RX1 51 "HintedPages$Store" "copiesOfStream" "[I", Cond.fieldLink RX1 54 "HintedPages$Store" "settings" "[I", Cond.fieldLink RX1 57 "HintedPages$Store" "freeBlocks" "I", Cond.fieldLink RX1 61 "HintedPages$Store" "closings" "I", Cond.methodLink RX1 70 yX1_copyRow, Cond.static yX1_copyRow, Cond.code yX1_copyRow cX1_copyRow 2 none, Cond.methodLink RX1 74 Lib.Math.min.name, Cond.static Lib.Math.min.name, Cond.initialized "java/lang/Math", Cond.code Lib.Math.min.name Lib.Math.min.code 2 (some .int), Cond.methodLink RX1 80 arraycopyName, Cond.native arraycopyName, Cond.static arraycopyName, Cond.initialized "java/lang/System"]
def wsX2_saveState : List Cond := .code yX2_saveState cX2_saveState 1 none :: ((wsX2_saveState_r1 ++ wsX2_saveState_r2) ++ wsX20 ++ wsX10)
def wsX2_write_r1 : List Cond := [Cond.classLink RX2 45 "java/lang/IndexOutOfBoundsException", Cond.initialized "java/lang/IndexOutOfBoundsException", Cond.classLink RX2 52 "java/lang/IllegalArgumentException", Cond.initialized "java/lang/IllegalArgumentException", Cond.fieldLink RX2 10 "HintedPages" "store" "LHintedPages$Store;", Cond.methodLink RX2 41 yX2_isIn, Cond.static yX2_isIn, Cond.initialized RX2, Cond.code yX2_isIn cX2_isIn 2 (some .boolean), Cond.methodLink RX2 57 yX2_saveState, Cond.instanceMethod yX2_saveState, Cond.selects RX2 yX2_saveState yX2_saveState, Cond.code yX2_saveState cX2_saveState 1 none, Cond.fieldLink RX2 23 "HintedPages" "savedStates" "I", Cond.fieldLink RX2 19 "HintedPages" "saved" "[LHintedPages$Store;", Cond.methodLink RX2 221 yX2_dropOldest, Cond.instanceMethod yX2_dropOldest, Cond.selects RX2 yX2_dropOldest yX2_dropOldest, Cond.code yX2_dropOldest cX2_dropOldest 3 none, Cond.methodLink RX2 224 yX1_becomeLike, Cond.instanceMethod yX1_becomeLike, Cond.selects RX1 yX1_becomeLike yX1_becomeLike, Cond.initialized RX1, Cond.code yX1_becomeLike cX1_becomeLike 2 none]
def wsX2_write_r2 : List Cond := [Cond.fieldLink RX1 9 "HintedPages$Store" "placeOfPage" "[I", Cond.fieldLink RX1 15 "HintedPages$Store" "hintOfPage" "[I", Cond.fieldLink RX1 18 "HintedPages$Store" "writesOfPage" "[I", Cond.fieldLink RX1 21 "HintedPages$Store" "copiesOfPage" "[I", Cond.fieldLink RX1 24 "HintedPages$Store" "copiesSinceWrite" "[I", Cond.fieldLink RX1 27 "HintedPages$Store" "pageAt" "[I", Cond.fieldLink RX1 30 "HintedPages$Store" "streamOfBlock" "[I", Cond.fieldLink RX1 33 "HintedPages$Store" "programmedOfBlock" "[I", Cond.fieldLink RX1 36 "HintedPages$Store" "validOfBlock" "[I", Cond.fieldLink RX1 39 "HintedPages$Store" "erasuresOfBlock" "[I", Cond.fieldLink RX1 42 "HintedPages$Store" "closingOfBlock" "[I", Cond.fieldLink RX1 45 "HintedPages$Store" "openOfStream" "[I", Cond.fieldLink RX1 48 "HintedPages$Store" "programmedOfStream" "[I", Cond.fieldLink RX1 51 "HintedPages$Store" "copiesOfStream" "[I", Cond.fieldLink RX1 54 "HintedPages$Store" "settings" "[I", Cond.fieldLink RX1 57 "HintedPages$Store" "freeBlocks" "I", Cond.fieldLink RX1 61 "HintedPages$Store" "closings" "I", Cond.methodLink RX1 70 yX1_copyRow, Cond.static yX1_copyRow, Cond.code yX1_copyRow cX1_copyRow 2 none, Cond.methodLink RX1 74 Lib.Math.min.name, Cond.static Lib.Math.min.name, Cond.initialized "java/lang/Math", Cond.code Lib.Math.min.name Lib.Math.min.code 2 (some .int)]
def wsX2_write_r3 : List Cond := [Cond.methodLink RX1 80 arraycopyName, Cond.native arraycopyName, Cond.static arraycopyName, Cond.initialized "java/lang/System", Cond.methodLink RX2 60 yX1_writePages, Cond.instanceMethod yX1_writePages, Cond.selects RX1 yX1_writePages yX1_writePages, Cond.code yX1_writePages cX1_writePages 6 (some .int), Cond.methodLink RX1 86 yX1_copies, Cond.instanceMethod yX1_copies, Cond.selects RX1 yX1_copies yX1_copies, Cond.code yX1_copies cX1_copies 1 (some .int), Cond.methodLink RX1 90 yX1_writePage, Cond.instanceMethod yX1_writePage, Cond.selects RX1 yX1_writePage yX1_writePage, Cond.code yX1_writePage cX1_writePage 3 none, Cond.methodLink RX1 94 yX1_collectVictims, Cond.instanceMethod yX1_collectVictims, Cond.selects RX1 yX1_collectVictims yX1_collectVictims, Cond.code yX1_collectVictims cX1_collectVictims 4 (some .int), Cond.constant RX1 105 (1000000), Cond.methodLink RX1 106 yX1_victim, Cond.instanceMethod yX1_victim, Cond.selects RX1 yX1_victim yX1_victim]
def wsX2_write_r4 : List Cond := [Cond.code yX1_victim cX1_victim 5 (some .int), Cond.methodLink RX1 113 yX1_rankOf, Cond.instanceMethod yX1_rankOf, Cond.selects RX1 yX1_rankOf yX1_rankOf, Cond.code yX1_rankOf cX1_rankOf 2 (some .int), Cond.methodLink RX1 109 yX1_collectBlock, Cond.instanceMethod yX1_collectBlock, Cond.selects RX1 yX1_collectBlock yX1_collectBlock, Cond.code yX1_collectBlock cX1_collectBlock 4 none, Cond.methodLink RX1 116 yX1_validPageAt, Cond.instanceMethod yX1_validPageAt, Cond.selects RX1 yX1_validPageAt yX1_validPageAt, Cond.code yX1_validPageAt cX1_validPageAt 3 (some .int), Cond.methodLink RX1 98 yX1_openBlock, Cond.instanceMethod yX1_openBlock, Cond.selects RX1 yX1_openBlock yX1_openBlock, Cond.code yX1_openBlock cX1_openBlock 4 (some .int), Cond.methodLink RX1 101 yX1_program, Cond.instanceMethod yX1_program, Cond.selects RX1 yX1_program yX1_program, Cond.code yX1_program cX1_program 6 none, Cond.methodLink RX1 119 yX1_erase, Cond.instanceMethod yX1_erase, Cond.selects RX1 yX1_erase yX1_erase]
def wsX2_write_r5 : List Cond := [Cond.code yX1_erase cX1_erase 3 none]
def wsX2_write : List Cond := .code yX2_write cX2_write 3 (some .int) :: ((wsX2_write_r1 ++ (wsX2_write_r2 ++ (wsX2_write_r3 ++ (wsX2_write_r4 ++ wsX2_write_r5)))) ++ wsX20 ++ wsX10 ++ (vx_atS RX2 49 "java/lang/IndexOutOfBoundsException" ["java/lang/RuntimeException", "java/lang/Exception"]).filter goodWord ++ (vx_atS RX2 56 "java/lang/IllegalArgumentException" ["java/lang/RuntimeException", "java/lang/Exception"]).filter goodWord)
def wsX2_writeRow_r1 : List Cond := [Cond.classLink RX2 45 "java/lang/IndexOutOfBoundsException", Cond.initialized "java/lang/IndexOutOfBoundsException", Cond.classLink RX2 52 "java/lang/IllegalArgumentException", Cond.initialized "java/lang/IllegalArgumentException", Cond.fieldLink RX2 10 "HintedPages" "store" "LHintedPages$Store;", Cond.methodLink RX2 41 yX2_isIn, Cond.static yX2_isIn, Cond.initialized RX2, Cond.code yX2_isIn cX2_isIn 2 (some .boolean), Cond.methodLink RX2 57 yX2_saveState, Cond.instanceMethod yX2_saveState, Cond.selects RX2 yX2_saveState yX2_saveState, Cond.code yX2_saveState cX2_saveState 1 none, Cond.fieldLink RX2 23 "HintedPages" "savedStates" "I", Cond.fieldLink RX2 19 "HintedPages" "saved" "[LHintedPages$Store;", Cond.methodLink RX2 221 yX2_dropOldest, Cond.instanceMethod yX2_dropOldest, Cond.selects RX2 yX2_dropOldest yX2_dropOldest, Cond.code yX2_dropOldest cX2_dropOldest 3 none, Cond.methodLink RX2 224 yX1_becomeLike, Cond.instanceMethod yX1_becomeLike, Cond.selects RX1 yX1_becomeLike yX1_becomeLike, Cond.initialized RX1, Cond.code yX1_becomeLike cX1_becomeLike 2 none]
def wsX2_writeRow_r2 : List Cond := [Cond.fieldLink RX1 9 "HintedPages$Store" "placeOfPage" "[I", Cond.fieldLink RX1 15 "HintedPages$Store" "hintOfPage" "[I", Cond.fieldLink RX1 18 "HintedPages$Store" "writesOfPage" "[I", Cond.fieldLink RX1 21 "HintedPages$Store" "copiesOfPage" "[I", Cond.fieldLink RX1 24 "HintedPages$Store" "copiesSinceWrite" "[I", Cond.fieldLink RX1 27 "HintedPages$Store" "pageAt" "[I", Cond.fieldLink RX1 30 "HintedPages$Store" "streamOfBlock" "[I", Cond.fieldLink RX1 33 "HintedPages$Store" "programmedOfBlock" "[I", Cond.fieldLink RX1 36 "HintedPages$Store" "validOfBlock" "[I", Cond.fieldLink RX1 39 "HintedPages$Store" "erasuresOfBlock" "[I", Cond.fieldLink RX1 42 "HintedPages$Store" "closingOfBlock" "[I", Cond.fieldLink RX1 45 "HintedPages$Store" "openOfStream" "[I", Cond.fieldLink RX1 48 "HintedPages$Store" "programmedOfStream" "[I", Cond.fieldLink RX1 51 "HintedPages$Store" "copiesOfStream" "[I", Cond.fieldLink RX1 54 "HintedPages$Store" "settings" "[I", Cond.fieldLink RX1 57 "HintedPages$Store" "freeBlocks" "I", Cond.fieldLink RX1 61 "HintedPages$Store" "closings" "I", Cond.methodLink RX1 70 yX1_copyRow, Cond.static yX1_copyRow, Cond.code yX1_copyRow cX1_copyRow 2 none, Cond.methodLink RX1 74 Lib.Math.min.name, Cond.static Lib.Math.min.name, Cond.initialized "java/lang/Math", Cond.code Lib.Math.min.name Lib.Math.min.code 2 (some .int)]
def wsX2_writeRow_r3 : List Cond := [Cond.methodLink RX1 80 arraycopyName, Cond.native arraycopyName, Cond.static arraycopyName, Cond.initialized "java/lang/System", Cond.methodLink RX2 60 yX1_writePages, Cond.instanceMethod yX1_writePages, Cond.selects RX1 yX1_writePages yX1_writePages, Cond.code yX1_writePages cX1_writePages 6 (some .int), Cond.methodLink RX1 86 yX1_copies, Cond.instanceMethod yX1_copies, Cond.selects RX1 yX1_copies yX1_copies, Cond.code yX1_copies cX1_copies 1 (some .int), Cond.methodLink RX1 90 yX1_writePage, Cond.instanceMethod yX1_writePage, Cond.selects RX1 yX1_writePage yX1_writePage, Cond.code yX1_writePage cX1_writePage 3 none, Cond.methodLink RX1 94 yX1_collectVictims, Cond.instanceMethod yX1_collectVictims, Cond.selects RX1 yX1_collectVictims yX1_collectVictims, Cond.code yX1_collectVictims cX1_collectVictims 4 (some .int), Cond.constant RX1 105 (1000000), Cond.methodLink RX1 106 yX1_victim, Cond.instanceMethod yX1_victim, Cond.selects RX1 yX1_victim yX1_victim]
def wsX2_writeRow_r4 : List Cond := [Cond.code yX1_victim cX1_victim 5 (some .int), Cond.methodLink RX1 113 yX1_rankOf, Cond.instanceMethod yX1_rankOf, Cond.selects RX1 yX1_rankOf yX1_rankOf, Cond.code yX1_rankOf cX1_rankOf 2 (some .int), Cond.methodLink RX1 109 yX1_collectBlock, Cond.instanceMethod yX1_collectBlock, Cond.selects RX1 yX1_collectBlock yX1_collectBlock, Cond.code yX1_collectBlock cX1_collectBlock 4 none, Cond.methodLink RX1 116 yX1_validPageAt, Cond.instanceMethod yX1_validPageAt, Cond.selects RX1 yX1_validPageAt yX1_validPageAt, Cond.code yX1_validPageAt cX1_validPageAt 3 (some .int), Cond.methodLink RX1 98 yX1_openBlock, Cond.instanceMethod yX1_openBlock, Cond.selects RX1 yX1_openBlock yX1_openBlock, Cond.code yX1_openBlock cX1_openBlock 4 (some .int), Cond.methodLink RX1 101 yX1_program, Cond.instanceMethod yX1_program, Cond.selects RX1 yX1_program yX1_program, Cond.code yX1_program cX1_program 6 none, Cond.methodLink RX1 119 yX1_erase, Cond.instanceMethod yX1_erase, Cond.selects RX1 yX1_erase yX1_erase]
def wsX2_writeRow_r5 : List Cond := [Cond.code yX1_erase cX1_erase 3 none]
def wsX2_writeRow : List Cond := .code yX2_writeRow cX2_writeRow 4 (some .int) :: ((wsX2_writeRow_r1 ++ (wsX2_writeRow_r2 ++ (wsX2_writeRow_r3 ++ (wsX2_writeRow_r4 ++ wsX2_writeRow_r5)))) ++ wsX20 ++ wsX10 ++ (vx_atS RX2 49 "java/lang/IndexOutOfBoundsException" ["java/lang/RuntimeException", "java/lang/Exception"]).filter goodWord ++ (vx_atS RX2 56 "java/lang/IllegalArgumentException" ["java/lang/RuntimeException", "java/lang/Exception"]).filter goodWord)
def wsX2_trim_r1 : List Cond := [Cond.classLink RX2 45 "java/lang/IndexOutOfBoundsException", Cond.initialized "java/lang/IndexOutOfBoundsException", Cond.fieldLink RX2 10 "HintedPages" "store" "LHintedPages$Store;", Cond.methodLink RX2 41 yX2_isIn, Cond.static yX2_isIn, Cond.initialized RX2, Cond.code yX2_isIn cX2_isIn 2 (some .boolean), Cond.methodLink RX2 57 yX2_saveState, Cond.instanceMethod yX2_saveState, Cond.selects RX2 yX2_saveState yX2_saveState, Cond.code yX2_saveState cX2_saveState 1 none, Cond.fieldLink RX2 23 "HintedPages" "savedStates" "I", Cond.fieldLink RX2 19 "HintedPages" "saved" "[LHintedPages$Store;", Cond.methodLink RX2 221 yX2_dropOldest, Cond.instanceMethod yX2_dropOldest, Cond.selects RX2 yX2_dropOldest yX2_dropOldest, Cond.code yX2_dropOldest cX2_dropOldest 3 none, Cond.methodLink RX2 224 yX1_becomeLike, Cond.instanceMethod yX1_becomeLike, Cond.selects RX1 yX1_becomeLike yX1_becomeLike, Cond.initialized RX1, Cond.code yX1_becomeLike cX1_becomeLike 2 none, Cond.fieldLink RX1 9 "HintedPages$Store" "placeOfPage" "[I", Cond.fieldLink RX1 15 "HintedPages$Store" "hintOfPage" "[I"]
def wsX2_trim_r2 : List Cond := [Cond.fieldLink RX1 18 "HintedPages$Store" "writesOfPage" "[I", Cond.fieldLink RX1 21 "HintedPages$Store" "copiesOfPage" "[I", Cond.fieldLink RX1 24 "HintedPages$Store" "copiesSinceWrite" "[I", Cond.fieldLink RX1 27 "HintedPages$Store" "pageAt" "[I", Cond.fieldLink RX1 30 "HintedPages$Store" "streamOfBlock" "[I", Cond.fieldLink RX1 33 "HintedPages$Store" "programmedOfBlock" "[I", Cond.fieldLink RX1 36 "HintedPages$Store" "validOfBlock" "[I", Cond.fieldLink RX1 39 "HintedPages$Store" "erasuresOfBlock" "[I", Cond.fieldLink RX1 42 "HintedPages$Store" "closingOfBlock" "[I", Cond.fieldLink RX1 45 "HintedPages$Store" "openOfStream" "[I", Cond.fieldLink RX1 48 "HintedPages$Store" "programmedOfStream" "[I", Cond.fieldLink RX1 51 "HintedPages$Store" "copiesOfStream" "[I", Cond.fieldLink RX1 54 "HintedPages$Store" "settings" "[I", Cond.fieldLink RX1 57 "HintedPages$Store" "freeBlocks" "I", Cond.fieldLink RX1 61 "HintedPages$Store" "closings" "I", Cond.methodLink RX1 70 yX1_copyRow, Cond.static yX1_copyRow, Cond.code yX1_copyRow cX1_copyRow 2 none, Cond.methodLink RX1 74 Lib.Math.min.name, Cond.static Lib.Math.min.name, Cond.initialized "java/lang/Math", Cond.code Lib.Math.min.name Lib.Math.min.code 2 (some .int), Cond.methodLink RX1 80 arraycopyName, Cond.native arraycopyName]
def wsX2_trim_r3 : List Cond := [Cond.static arraycopyName, Cond.initialized "java/lang/System", Cond.methodLink RX2 66 yX1_blockOf, Cond.instanceMethod yX1_blockOf, Cond.selects RX1 yX1_blockOf yX1_blockOf, Cond.code yX1_blockOf cX1_blockOf 2 (some .int), Cond.methodLink RX1 122 yX1_isWritten, Cond.instanceMethod yX1_isWritten, Cond.selects RX1 yX1_isWritten yX1_isWritten, Cond.code yX1_isWritten cX1_isWritten 2 (some .boolean), Cond.methodLink RX2 70 yX1_forget, Cond.instanceMethod yX1_forget, Cond.selects RX1 yX1_forget yX1_forget, Cond.code yX1_forget cX1_forget 3 none]
def wsX2_trim : List Cond := .code yX2_trim cX2_trim 3 (some .int) :: ((wsX2_trim_r1 ++ (wsX2_trim_r2 ++ wsX2_trim_r3)) ++ wsX20 ++ wsX10 ++ (vx_atS RX2 49 "java/lang/IndexOutOfBoundsException" ["java/lang/RuntimeException", "java/lang/Exception"]).filter goodWord)
def wsX2_hint_r1 : List Cond := [Cond.classLink RX2 45 "java/lang/IndexOutOfBoundsException", Cond.initialized "java/lang/IndexOutOfBoundsException", Cond.classLink RX2 52 "java/lang/IllegalArgumentException", Cond.initialized "java/lang/IllegalArgumentException", Cond.classLink RX2 78 "java/lang/IllegalStateException", Cond.initialized "java/lang/IllegalStateException", Cond.fieldLink RX2 10 "HintedPages" "store" "LHintedPages$Store;", Cond.fieldLink RX2 83 "HintedPages$Store" "hintOfPage" "[I", Cond.methodLink RX2 41 yX2_isIn, Cond.static yX2_isIn, Cond.initialized RX2, Cond.code yX2_isIn cX2_isIn 2 (some .boolean), Cond.methodLink RX2 74 yX1_isWritten, Cond.instanceMethod yX1_isWritten, Cond.selects RX1 yX1_isWritten yX1_isWritten, Cond.initialized RX1, Cond.code yX1_isWritten cX1_isWritten 2 (some .boolean), Cond.fieldLink RX1 9 "HintedPages$Store" "placeOfPage" "[I", Cond.methodLink RX2 57 yX2_saveState, Cond.instanceMethod yX2_saveState, Cond.selects RX2 yX2_saveState yX2_saveState, Cond.code yX2_saveState cX2_saveState 1 none, Cond.fieldLink RX2 23 "HintedPages" "savedStates" "I", Cond.fieldLink RX2 19 "HintedPages" "saved" "[LHintedPages$Store;"]
def wsX2_hint_r2 : List Cond := [Cond.methodLink RX2 221 yX2_dropOldest, Cond.instanceMethod yX2_dropOldest, Cond.selects RX2 yX2_dropOldest yX2_dropOldest, Cond.code yX2_dropOldest cX2_dropOldest 3 none, Cond.methodLink RX2 224 yX1_becomeLike, Cond.instanceMethod yX1_becomeLike, Cond.selects RX1 yX1_becomeLike yX1_becomeLike, Cond.code yX1_becomeLike cX1_becomeLike 2 none, Cond.fieldLink RX1 15 "HintedPages$Store" "hintOfPage" "[I", Cond.fieldLink RX1 18 "HintedPages$Store" "writesOfPage" "[I", Cond.fieldLink RX1 21 "HintedPages$Store" "copiesOfPage" "[I", Cond.fieldLink RX1 24 "HintedPages$Store" "copiesSinceWrite" "[I", Cond.fieldLink RX1 27 "HintedPages$Store" "pageAt" "[I", Cond.fieldLink RX1 30 "HintedPages$Store" "streamOfBlock" "[I", Cond.fieldLink RX1 33 "HintedPages$Store" "programmedOfBlock" "[I", Cond.fieldLink RX1 36 "HintedPages$Store" "validOfBlock" "[I", Cond.fieldLink RX1 39 "HintedPages$Store" "erasuresOfBlock" "[I", Cond.fieldLink RX1 42 "HintedPages$Store" "closingOfBlock" "[I", Cond.fieldLink RX1 45 "HintedPages$Store" "openOfStream" "[I", Cond.fieldLink RX1 48 "HintedPages$Store" "programmedOfStream" "[I", Cond.fieldLink RX1 51 "HintedPages$Store" "copiesOfStream" "[I", Cond.fieldLink RX1 54 "HintedPages$Store" "settings" "[I", Cond.fieldLink RX1 57 "HintedPages$Store" "freeBlocks" "I", Cond.fieldLink RX1 61 "HintedPages$Store" "closings" "I"]
def wsX2_hint_r3 : List Cond := [Cond.methodLink RX1 70 yX1_copyRow, Cond.static yX1_copyRow, Cond.code yX1_copyRow cX1_copyRow 2 none, Cond.methodLink RX1 74 Lib.Math.min.name, Cond.static Lib.Math.min.name, Cond.initialized "java/lang/Math", Cond.code Lib.Math.min.name Lib.Math.min.code 2 (some .int), Cond.methodLink RX1 80 arraycopyName, Cond.native arraycopyName, Cond.static arraycopyName, Cond.initialized "java/lang/System"]
def wsX2_hint : List Cond := .code yX2_hint cX2_hint 4 (some .int) :: ((wsX2_hint_r1 ++ (wsX2_hint_r2 ++ wsX2_hint_r3)) ++ wsX20 ++ wsX10 ++ (vx_atS RX2 49 "java/lang/IndexOutOfBoundsException" ["java/lang/RuntimeException", "java/lang/Exception"]).filter goodWord ++ (vx_atS RX2 56 "java/lang/IllegalArgumentException" ["java/lang/RuntimeException", "java/lang/Exception"]).filter goodWord ++ (vx_atS RX2 82 "java/lang/IllegalStateException" ["java/lang/RuntimeException", "java/lang/Exception"]).filter goodWord)
def wsX2_collect_r1 : List Cond := [Cond.classLink RX2 45 "java/lang/IndexOutOfBoundsException", Cond.initialized "java/lang/IndexOutOfBoundsException", Cond.classLink RX2 78 "java/lang/IllegalStateException", Cond.initialized "java/lang/IllegalStateException", Cond.fieldLink RX2 10 "HintedPages" "store" "LHintedPages$Store;", Cond.methodLink RX2 41 yX2_isIn, Cond.static yX2_isIn, Cond.initialized RX2, Cond.code yX2_isIn cX2_isIn 2 (some .boolean), Cond.methodLink RX2 88 yX1_stateOf, Cond.instanceMethod yX1_stateOf, Cond.selects RX1 yX1_stateOf yX1_stateOf, Cond.initialized RX1, Cond.code yX1_stateOf cX1_stateOf 2 (some .int), Cond.fieldLink RX1 30 "HintedPages$Store" "streamOfBlock" "[I", Cond.fieldLink RX1 33 "HintedPages$Store" "programmedOfBlock" "[I", Cond.methodLink RX2 57 yX2_saveState, Cond.instanceMethod yX2_saveState, Cond.selects RX2 yX2_saveState yX2_saveState, Cond.code yX2_saveState cX2_saveState 1 none, Cond.fieldLink RX2 23 "HintedPages" "savedStates" "I", Cond.fieldLink RX2 19 "HintedPages" "saved" "[LHintedPages$Store;", Cond.methodLink RX2 221 yX2_dropOldest, Cond.instanceMethod yX2_dropOldest]
def wsX2_collect_r2 : List Cond := [Cond.selects RX2 yX2_dropOldest yX2_dropOldest, Cond.code yX2_dropOldest cX2_dropOldest 3 none, Cond.methodLink RX2 224 yX1_becomeLike, Cond.instanceMethod yX1_becomeLike, Cond.selects RX1 yX1_becomeLike yX1_becomeLike, Cond.code yX1_becomeLike cX1_becomeLike 2 none, Cond.fieldLink RX1 9 "HintedPages$Store" "placeOfPage" "[I", Cond.fieldLink RX1 15 "HintedPages$Store" "hintOfPage" "[I", Cond.fieldLink RX1 18 "HintedPages$Store" "writesOfPage" "[I", Cond.fieldLink RX1 21 "HintedPages$Store" "copiesOfPage" "[I", Cond.fieldLink RX1 24 "HintedPages$Store" "copiesSinceWrite" "[I", Cond.fieldLink RX1 27 "HintedPages$Store" "pageAt" "[I", Cond.fieldLink RX1 36 "HintedPages$Store" "validOfBlock" "[I", Cond.fieldLink RX1 39 "HintedPages$Store" "erasuresOfBlock" "[I", Cond.fieldLink RX1 42 "HintedPages$Store" "closingOfBlock" "[I", Cond.fieldLink RX1 45 "HintedPages$Store" "openOfStream" "[I", Cond.fieldLink RX1 48 "HintedPages$Store" "programmedOfStream" "[I", Cond.fieldLink RX1 51 "HintedPages$Store" "copiesOfStream" "[I", Cond.fieldLink RX1 54 "HintedPages$Store" "settings" "[I", Cond.fieldLink RX1 57 "HintedPages$Store" "freeBlocks" "I", Cond.fieldLink RX1 61 "HintedPages$Store" "closings" "I", Cond.methodLink RX1 70 yX1_copyRow, Cond.static yX1_copyRow, Cond.code yX1_copyRow cX1_copyRow 2 none]
def wsX2_collect_r3 : List Cond := [Cond.methodLink RX1 74 Lib.Math.min.name, Cond.static Lib.Math.min.name, Cond.initialized "java/lang/Math", Cond.code Lib.Math.min.name Lib.Math.min.code 2 (some .int), Cond.methodLink RX1 80 arraycopyName, Cond.native arraycopyName, Cond.static arraycopyName, Cond.initialized "java/lang/System", Cond.methodLink RX2 93 yX1_copies, Cond.instanceMethod yX1_copies, Cond.selects RX1 yX1_copies yX1_copies, Cond.code yX1_copies cX1_copies 1 (some .int), Cond.methodLink RX2 97 yX1_collectBlock, Cond.instanceMethod yX1_collectBlock, Cond.selects RX1 yX1_collectBlock yX1_collectBlock, Cond.code yX1_collectBlock cX1_collectBlock 4 none, Cond.methodLink RX1 116 yX1_validPageAt, Cond.instanceMethod yX1_validPageAt, Cond.selects RX1 yX1_validPageAt yX1_validPageAt, Cond.code yX1_validPageAt cX1_validPageAt 3 (some .int), Cond.methodLink RX1 98 yX1_openBlock, Cond.instanceMethod yX1_openBlock, Cond.selects RX1 yX1_openBlock yX1_openBlock, Cond.code yX1_openBlock cX1_openBlock 4 (some .int)]
def wsX2_collect_r4 : List Cond := [Cond.methodLink RX1 101 yX1_program, Cond.instanceMethod yX1_program, Cond.selects RX1 yX1_program yX1_program, Cond.code yX1_program cX1_program 6 none, Cond.methodLink RX1 119 yX1_erase, Cond.instanceMethod yX1_erase, Cond.selects RX1 yX1_erase yX1_erase, Cond.code yX1_erase cX1_erase 3 none]
def wsX2_collect : List Cond := .code yX2_collect cX2_collect 3 (some .int) :: ((wsX2_collect_r1 ++ (wsX2_collect_r2 ++ (wsX2_collect_r3 ++ wsX2_collect_r4))) ++ wsX20 ++ wsX10 ++ (vx_atS RX2 49 "java/lang/IndexOutOfBoundsException" ["java/lang/RuntimeException", "java/lang/Exception"]).filter goodWord ++ (vx_atS RX2 82 "java/lang/IllegalStateException" ["java/lang/RuntimeException", "java/lang/Exception"]).filter goodWord)
def wsX2_tidy_r1 : List Cond := [Cond.classLink RX2 52 "java/lang/IllegalArgumentException", Cond.initialized "java/lang/IllegalArgumentException", Cond.fieldLink RX2 10 "HintedPages" "store" "LHintedPages$Store;", Cond.methodLink RX2 57 yX2_saveState, Cond.instanceMethod yX2_saveState, Cond.selects RX2 yX2_saveState yX2_saveState, Cond.initialized RX2, Cond.code yX2_saveState cX2_saveState 1 none, Cond.fieldLink RX2 23 "HintedPages" "savedStates" "I", Cond.fieldLink RX2 19 "HintedPages" "saved" "[LHintedPages$Store;", Cond.methodLink RX2 221 yX2_dropOldest, Cond.instanceMethod yX2_dropOldest, Cond.selects RX2 yX2_dropOldest yX2_dropOldest, Cond.code yX2_dropOldest cX2_dropOldest 3 none, Cond.methodLink RX2 224 yX1_becomeLike, Cond.instanceMethod yX1_becomeLike, Cond.selects RX1 yX1_becomeLike yX1_becomeLike, Cond.initialized RX1, Cond.code yX1_becomeLike cX1_becomeLike 2 none, Cond.fieldLink RX1 9 "HintedPages$Store" "placeOfPage" "[I", Cond.fieldLink RX1 15 "HintedPages$Store" "hintOfPage" "[I", Cond.fieldLink RX1 18 "HintedPages$Store" "writesOfPage" "[I", Cond.fieldLink RX1 21 "HintedPages$Store" "copiesOfPage" "[I", Cond.fieldLink RX1 24 "HintedPages$Store" "copiesSinceWrite" "[I"]
def wsX2_tidy_r2 : List Cond := [Cond.fieldLink RX1 27 "HintedPages$Store" "pageAt" "[I", Cond.fieldLink RX1 30 "HintedPages$Store" "streamOfBlock" "[I", Cond.fieldLink RX1 33 "HintedPages$Store" "programmedOfBlock" "[I", Cond.fieldLink RX1 36 "HintedPages$Store" "validOfBlock" "[I", Cond.fieldLink RX1 39 "HintedPages$Store" "erasuresOfBlock" "[I", Cond.fieldLink RX1 42 "HintedPages$Store" "closingOfBlock" "[I", Cond.fieldLink RX1 45 "HintedPages$Store" "openOfStream" "[I", Cond.fieldLink RX1 48 "HintedPages$Store" "programmedOfStream" "[I", Cond.fieldLink RX1 51 "HintedPages$Store" "copiesOfStream" "[I", Cond.fieldLink RX1 54 "HintedPages$Store" "settings" "[I", Cond.fieldLink RX1 57 "HintedPages$Store" "freeBlocks" "I", Cond.fieldLink RX1 61 "HintedPages$Store" "closings" "I", Cond.methodLink RX1 70 yX1_copyRow, Cond.static yX1_copyRow, Cond.code yX1_copyRow cX1_copyRow 2 none, Cond.methodLink RX1 74 Lib.Math.min.name, Cond.static Lib.Math.min.name, Cond.initialized "java/lang/Math", Cond.code Lib.Math.min.name Lib.Math.min.code 2 (some .int), Cond.methodLink RX1 80 arraycopyName, Cond.native arraycopyName, Cond.static arraycopyName, Cond.initialized "java/lang/System", Cond.methodLink RX2 102 yX1_collectVictims]
def wsX2_tidy_r3 : List Cond := [Cond.instanceMethod yX1_collectVictims, Cond.selects RX1 yX1_collectVictims yX1_collectVictims, Cond.code yX1_collectVictims cX1_collectVictims 4 (some .int), Cond.constant RX1 105 (1000000), Cond.methodLink RX1 106 yX1_victim, Cond.instanceMethod yX1_victim, Cond.selects RX1 yX1_victim yX1_victim, Cond.code yX1_victim cX1_victim 5 (some .int), Cond.methodLink RX1 113 yX1_rankOf, Cond.instanceMethod yX1_rankOf, Cond.selects RX1 yX1_rankOf yX1_rankOf, Cond.code yX1_rankOf cX1_rankOf 2 (some .int), Cond.methodLink RX1 109 yX1_collectBlock, Cond.instanceMethod yX1_collectBlock, Cond.selects RX1 yX1_collectBlock yX1_collectBlock, Cond.code yX1_collectBlock cX1_collectBlock 4 none, Cond.methodLink RX1 116 yX1_validPageAt, Cond.instanceMethod yX1_validPageAt, Cond.selects RX1 yX1_validPageAt yX1_validPageAt, Cond.code yX1_validPageAt cX1_validPageAt 3 (some .int), Cond.methodLink RX1 98 yX1_openBlock, Cond.instanceMethod yX1_openBlock, Cond.selects RX1 yX1_openBlock yX1_openBlock, Cond.code yX1_openBlock cX1_openBlock 4 (some .int)]
def wsX2_tidy_r4 : List Cond := [Cond.methodLink RX1 101 yX1_program, Cond.instanceMethod yX1_program, Cond.selects RX1 yX1_program yX1_program, Cond.code yX1_program cX1_program 6 none, Cond.methodLink RX1 119 yX1_erase, Cond.instanceMethod yX1_erase, Cond.selects RX1 yX1_erase yX1_erase, Cond.code yX1_erase cX1_erase 3 none]
def wsX2_tidy : List Cond := .code yX2_tidy cX2_tidy 2 (some .int) :: ((wsX2_tidy_r1 ++ (wsX2_tidy_r2 ++ (wsX2_tidy_r3 ++ wsX2_tidy_r4))) ++ wsX20 ++ wsX10 ++ (vx_atS RX2 56 "java/lang/IllegalArgumentException" ["java/lang/RuntimeException", "java/lang/Exception"]).filter goodWord)
def wsX2_isSettingValue : List Cond := .code yX2_isSettingValue cX2_isSettingValue 2 (some .boolean) :: ([.methodLink RX2 41 yX2_isIn, .static yX2_isIn, .initialized RX2, .code yX2_isIn cX2_isIn 2 (some .boolean)])
def wsX2_set_r1 : List Cond := [Cond.classLink RX2 45 "java/lang/IndexOutOfBoundsException", Cond.initialized "java/lang/IndexOutOfBoundsException", Cond.classLink RX2 52 "java/lang/IllegalArgumentException", Cond.initialized "java/lang/IllegalArgumentException", Cond.fieldLink RX2 10 "HintedPages" "store" "LHintedPages$Store;", Cond.fieldLink RX2 112 "HintedPages$Store" "settings" "[I", Cond.methodLink RX2 41 yX2_isIn, Cond.static yX2_isIn, Cond.initialized RX2, Cond.code yX2_isIn cX2_isIn 2 (some .boolean), Cond.methodLink RX2 107 yX2_isSettingValue, Cond.static yX2_isSettingValue, Cond.code yX2_isSettingValue cX2_isSettingValue 2 (some .boolean), Cond.methodLink RX2 57 yX2_saveState, Cond.instanceMethod yX2_saveState, Cond.selects RX2 yX2_saveState yX2_saveState, Cond.code yX2_saveState cX2_saveState 1 none, Cond.fieldLink RX2 23 "HintedPages" "savedStates" "I", Cond.fieldLink RX2 19 "HintedPages" "saved" "[LHintedPages$Store;", Cond.methodLink RX2 221 yX2_dropOldest, Cond.instanceMethod yX2_dropOldest, Cond.selects RX2 yX2_dropOldest yX2_dropOldest, Cond.code yX2_dropOldest cX2_dropOldest 3 none, Cond.methodLink RX2 224 yX1_becomeLike]
def wsX2_set_r2 : List Cond := [Cond.instanceMethod yX1_becomeLike, Cond.selects RX1 yX1_becomeLike yX1_becomeLike, Cond.initialized RX1, Cond.code yX1_becomeLike cX1_becomeLike 2 none, Cond.fieldLink RX1 9 "HintedPages$Store" "placeOfPage" "[I", Cond.fieldLink RX1 15 "HintedPages$Store" "hintOfPage" "[I", Cond.fieldLink RX1 18 "HintedPages$Store" "writesOfPage" "[I", Cond.fieldLink RX1 21 "HintedPages$Store" "copiesOfPage" "[I", Cond.fieldLink RX1 24 "HintedPages$Store" "copiesSinceWrite" "[I", Cond.fieldLink RX1 27 "HintedPages$Store" "pageAt" "[I", Cond.fieldLink RX1 30 "HintedPages$Store" "streamOfBlock" "[I", Cond.fieldLink RX1 33 "HintedPages$Store" "programmedOfBlock" "[I", Cond.fieldLink RX1 36 "HintedPages$Store" "validOfBlock" "[I", Cond.fieldLink RX1 39 "HintedPages$Store" "erasuresOfBlock" "[I", Cond.fieldLink RX1 42 "HintedPages$Store" "closingOfBlock" "[I", Cond.fieldLink RX1 45 "HintedPages$Store" "openOfStream" "[I", Cond.fieldLink RX1 48 "HintedPages$Store" "programmedOfStream" "[I", Cond.fieldLink RX1 51 "HintedPages$Store" "copiesOfStream" "[I", Cond.fieldLink RX1 54 "HintedPages$Store" "settings" "[I", Cond.fieldLink RX1 57 "HintedPages$Store" "freeBlocks" "I", Cond.fieldLink RX1 61 "HintedPages$Store" "closings" "I", Cond.methodLink RX1 70 yX1_copyRow, Cond.static yX1_copyRow, Cond.code yX1_copyRow cX1_copyRow 2 none]
def wsX2_set_r3 : List Cond := [Cond.methodLink RX1 74 Lib.Math.min.name, Cond.static Lib.Math.min.name, Cond.initialized "java/lang/Math", Cond.code Lib.Math.min.name Lib.Math.min.code 2 (some .int), Cond.methodLink RX1 80 arraycopyName, Cond.native arraycopyName, Cond.static arraycopyName, Cond.initialized "java/lang/System"]
def wsX2_set : List Cond := .code yX2_set cX2_set 4 (some .int) :: ((wsX2_set_r1 ++ (wsX2_set_r2 ++ wsX2_set_r3)) ++ wsX20 ++ wsX10 ++ (vx_atS RX2 49 "java/lang/IndexOutOfBoundsException" ["java/lang/RuntimeException", "java/lang/Exception"]).filter goodWord ++ (vx_atS RX2 56 "java/lang/IllegalArgumentException" ["java/lang/RuntimeException", "java/lang/Exception"]).filter goodWord)
def wsX2_append : List Cond := .code yX2_append cX2_append 2 (some .int) :: ([.classLink RX2 52 "java/lang/IllegalArgumentException", .initialized "java/lang/IllegalArgumentException", .classLink RX2 78 "java/lang/IllegalStateException", .initialized "java/lang/IllegalStateException", .fieldLink RX2 31 "HintedPages" "length" "I", .fieldLink RX2 27 "HintedPages" "codes" "[I"] ++ wsX20 ++ (vx_atS RX2 56 "java/lang/IllegalArgumentException" ["java/lang/RuntimeException", "java/lang/Exception"]).filter goodWord ++ (vx_atS RX2 82 "java/lang/IllegalStateException" ["java/lang/RuntimeException", "java/lang/Exception"]).filter goodWord)
def wsX2_clearBuffer : List Cond := .code yX2_clearBuffer cX2_clearBuffer 2 (some .int) :: ([.fieldLink RX2 31 "HintedPages" "length" "I"] ++ wsX20)
def wsX2_readBuffer_r1 : List Cond := [Cond.fieldLink RX2 37 "HintedPages" "reader" "LHintedPages$Reader;", Cond.fieldLink RX2 31 "HintedPages" "length" "I", Cond.fieldLink RX2 27 "HintedPages" "codes" "[I", Cond.methodLink RX2 128 yX0_restart, Cond.instanceMethod yX0_restart, Cond.selects RX0 yX0_restart yX0_restart, Cond.initialized RX0, Cond.code yX0_restart cX0_restart 1 none, Cond.fieldLink RX0 11 "HintedPages$Reader" "behind" "I", Cond.methodLink RX2 131 yX0_accepts, Cond.instanceMethod yX0_accepts, Cond.selects RX0 yX0_accepts yX0_accepts, Cond.code yX0_accepts cX0_accepts 2 (some .boolean), Cond.fieldLink RX0 15 "HintedPages$Reader" "first" "I", Cond.methodLink RX0 24 yX0_acceptsDigit, Cond.instanceMethod yX0_acceptsDigit, Cond.selects RX0 yX0_acceptsDigit yX0_acceptsDigit, Cond.code yX0_acceptsDigit cX0_acceptsDigit 2 (some .boolean), Cond.fieldLink RX0 18 "HintedPages$Reader" "last" "I", Cond.fieldLink RX0 21 "HintedPages$Reader" "hint" "I", Cond.methodLink RX0 28 yX0_goesOn, Cond.instanceMethod yX0_goesOn, Cond.selects RX0 yX0_goesOn yX0_goesOn, Cond.code yX0_goesOn cX0_goesOn 3 (some .boolean)]
def wsX2_readBuffer_r2 : List Cond := [Cond.methodLink RX0 36 yX0_acceptsFirst, Cond.instanceMethod yX0_acceptsFirst, Cond.selects RX0 yX0_acceptsFirst yX0_acceptsFirst, Cond.code yX0_acceptsFirst cX0_acceptsFirst 2 (some .boolean), Cond.methodLink RX0 39 yX0_mayGrow, Cond.static yX0_mayGrow, Cond.code yX0_mayGrow cX0_mayGrow 1 (some .boolean), Cond.methodLink RX0 42 yX0_acceptsLast, Cond.instanceMethod yX0_acceptsLast, Cond.selects RX0 yX0_acceptsLast yX0_acceptsLast, Cond.code yX0_acceptsLast cX0_acceptsLast 3 (some .boolean), Cond.methodLink RX0 46 yX0_acceptsHint, Cond.instanceMethod yX0_acceptsHint, Cond.selects RX0 yX0_acceptsHint yX0_acceptsHint, Cond.code yX0_acceptsHint cX0_acceptsHint 2 (some .boolean), Cond.methodLink RX0 32 yX0_isPartWhole, Cond.instanceMethod yX0_isPartWhole, Cond.selects RX0 yX0_isPartWhole yX0_isPartWhole, Cond.code yX0_isPartWhole cX0_isPartWhole 1 (some .boolean)]
def wsX2_readBuffer : List Cond := .code yX2_readBuffer cX2_readBuffer 2 (some .int) :: ((wsX2_readBuffer_r1 ++ wsX2_readBuffer_r2) ++ wsX20 ++ wsX00)
def wsX2_firstError_r1 : List Cond := [Cond.methodLink RX2 119 yX2_readBuffer, Cond.instanceMethod yX2_readBuffer, Cond.selects RX2 yX2_readBuffer yX2_readBuffer, Cond.initialized RX2, Cond.code yX2_readBuffer cX2_readBuffer 2 (some .int), Cond.fieldLink RX2 37 "HintedPages" "reader" "LHintedPages$Reader;", Cond.fieldLink RX2 31 "HintedPages" "length" "I", Cond.fieldLink RX2 27 "HintedPages" "codes" "[I", Cond.methodLink RX2 128 yX0_restart, Cond.instanceMethod yX0_restart, Cond.selects RX0 yX0_restart yX0_restart, Cond.initialized RX0, Cond.code yX0_restart cX0_restart 1 none, Cond.fieldLink RX0 11 "HintedPages$Reader" "behind" "I", Cond.methodLink RX2 131 yX0_accepts, Cond.instanceMethod yX0_accepts, Cond.selects RX0 yX0_accepts yX0_accepts, Cond.code yX0_accepts cX0_accepts 2 (some .boolean), Cond.fieldLink RX0 15 "HintedPages$Reader" "first" "I", Cond.methodLink RX0 24 yX0_acceptsDigit, Cond.instanceMethod yX0_acceptsDigit, Cond.selects RX0 yX0_acceptsDigit yX0_acceptsDigit, Cond.code yX0_acceptsDigit cX0_acceptsDigit 2 (some .boolean), Cond.fieldLink RX0 18 "HintedPages$Reader" "last" "I"]
def wsX2_firstError_r2 : List Cond := [Cond.fieldLink RX0 21 "HintedPages$Reader" "hint" "I", Cond.methodLink RX0 28 yX0_goesOn, Cond.instanceMethod yX0_goesOn, Cond.selects RX0 yX0_goesOn yX0_goesOn, Cond.code yX0_goesOn cX0_goesOn 3 (some .boolean), Cond.methodLink RX0 36 yX0_acceptsFirst, Cond.instanceMethod yX0_acceptsFirst, Cond.selects RX0 yX0_acceptsFirst yX0_acceptsFirst, Cond.code yX0_acceptsFirst cX0_acceptsFirst 2 (some .boolean), Cond.methodLink RX0 39 yX0_mayGrow, Cond.static yX0_mayGrow, Cond.code yX0_mayGrow cX0_mayGrow 1 (some .boolean), Cond.methodLink RX0 42 yX0_acceptsLast, Cond.instanceMethod yX0_acceptsLast, Cond.selects RX0 yX0_acceptsLast yX0_acceptsLast, Cond.code yX0_acceptsLast cX0_acceptsLast 3 (some .boolean), Cond.methodLink RX0 46 yX0_acceptsHint, Cond.instanceMethod yX0_acceptsHint, Cond.selects RX0 yX0_acceptsHint yX0_acceptsHint, Cond.code yX0_acceptsHint cX0_acceptsHint 2 (some .boolean), Cond.methodLink RX0 32 yX0_isPartWhole, Cond.instanceMethod yX0_isPartWhole, Cond.selects RX0 yX0_isPartWhole yX0_isPartWhole, Cond.code yX0_isPartWhole cX0_isPartWhole 1 (some .boolean)]
def wsX2_firstError : List Cond := .code yX2_firstError cX2_firstError 1 (some .int) :: ((wsX2_firstError_r1 ++ wsX2_firstError_r2) ++ wsX20 ++ wsX00)
def wsX2_writeAll_r1 : List Cond := [Cond.classLink RX2 52 "java/lang/IllegalArgumentException", Cond.initialized "java/lang/IllegalArgumentException", Cond.fieldLink RX2 31 "HintedPages" "length" "I", Cond.fieldLink RX2 37 "HintedPages" "reader" "LHintedPages$Reader;", Cond.fieldLink RX2 27 "HintedPages" "codes" "[I", Cond.fieldLink RX2 10 "HintedPages" "store" "LHintedPages$Store;", Cond.fieldLink RX2 134 "HintedPages$Reader" "first" "I", Cond.fieldLink RX2 137 "HintedPages$Reader" "last" "I", Cond.fieldLink RX2 140 "HintedPages$Reader" "hint" "I", Cond.methodLink RX2 119 yX2_readBuffer, Cond.instanceMethod yX2_readBuffer, Cond.selects RX2 yX2_readBuffer yX2_readBuffer, Cond.initialized RX2, Cond.code yX2_readBuffer cX2_readBuffer 2 (some .int), Cond.methodLink RX2 128 yX0_restart, Cond.instanceMethod yX0_restart, Cond.selects RX0 yX0_restart yX0_restart, Cond.initialized RX0, Cond.code yX0_restart cX0_restart 1 none, Cond.fieldLink RX0 11 "HintedPages$Reader" "behind" "I", Cond.methodLink RX2 131 yX0_accepts, Cond.instanceMethod yX0_accepts, Cond.selects RX0 yX0_accepts yX0_accepts, Cond.code yX0_accepts cX0_accepts 2 (some .boolean)]
def wsX2_writeAll_r2 : List Cond := [Cond.fieldLink RX0 15 "HintedPages$Reader" "first" "I", Cond.methodLink RX0 24 yX0_acceptsDigit, Cond.instanceMethod yX0_acceptsDigit, Cond.selects RX0 yX0_acceptsDigit yX0_acceptsDigit, Cond.code yX0_acceptsDigit cX0_acceptsDigit 2 (some .boolean), Cond.fieldLink RX0 18 "HintedPages$Reader" "last" "I", Cond.fieldLink RX0 21 "HintedPages$Reader" "hint" "I", Cond.methodLink RX0 28 yX0_goesOn, Cond.instanceMethod yX0_goesOn, Cond.selects RX0 yX0_goesOn yX0_goesOn, Cond.code yX0_goesOn cX0_goesOn 3 (some .boolean), Cond.methodLink RX0 36 yX0_acceptsFirst, Cond.instanceMethod yX0_acceptsFirst, Cond.selects RX0 yX0_acceptsFirst yX0_acceptsFirst, Cond.code yX0_acceptsFirst cX0_acceptsFirst 2 (some .boolean), Cond.methodLink RX0 39 yX0_mayGrow, Cond.static yX0_mayGrow, Cond.code yX0_mayGrow cX0_mayGrow 1 (some .boolean), Cond.methodLink RX0 42 yX0_acceptsLast, Cond.instanceMethod yX0_acceptsLast, Cond.selects RX0 yX0_acceptsLast yX0_acceptsLast, Cond.code yX0_acceptsLast cX0_acceptsLast 3 (some .boolean), Cond.methodLink RX0 46 yX0_acceptsHint, Cond.instanceMethod yX0_acceptsHint]
def wsX2_writeAll_r3 : List Cond := [Cond.selects RX0 yX0_acceptsHint yX0_acceptsHint, Cond.code yX0_acceptsHint cX0_acceptsHint 2 (some .boolean), Cond.methodLink RX0 32 yX0_isPartWhole, Cond.instanceMethod yX0_isPartWhole, Cond.selects RX0 yX0_isPartWhole yX0_isPartWhole, Cond.code yX0_isPartWhole cX0_isPartWhole 1 (some .boolean), Cond.methodLink RX2 122 yX0_isPartWhole, Cond.methodLink RX2 57 yX2_saveState, Cond.instanceMethod yX2_saveState, Cond.selects RX2 yX2_saveState yX2_saveState, Cond.code yX2_saveState cX2_saveState 1 none, Cond.fieldLink RX2 23 "HintedPages" "savedStates" "I", Cond.fieldLink RX2 19 "HintedPages" "saved" "[LHintedPages$Store;", Cond.methodLink RX2 221 yX2_dropOldest, Cond.instanceMethod yX2_dropOldest, Cond.selects RX2 yX2_dropOldest yX2_dropOldest, Cond.code yX2_dropOldest cX2_dropOldest 3 none, Cond.methodLink RX2 224 yX1_becomeLike, Cond.instanceMethod yX1_becomeLike, Cond.selects RX1 yX1_becomeLike yX1_becomeLike, Cond.initialized RX1, Cond.code yX1_becomeLike cX1_becomeLike 2 none, Cond.fieldLink RX1 9 "HintedPages$Store" "placeOfPage" "[I", Cond.fieldLink RX1 15 "HintedPages$Store" "hintOfPage" "[I"]
def wsX2_writeAll_r4 : List Cond := [Cond.fieldLink RX1 18 "HintedPages$Store" "writesOfPage" "[I", Cond.fieldLink RX1 21 "HintedPages$Store" "copiesOfPage" "[I", Cond.fieldLink RX1 24 "HintedPages$Store" "copiesSinceWrite" "[I", Cond.fieldLink RX1 27 "HintedPages$Store" "pageAt" "[I", Cond.fieldLink RX1 30 "HintedPages$Store" "streamOfBlock" "[I", Cond.fieldLink RX1 33 "HintedPages$Store" "programmedOfBlock" "[I", Cond.fieldLink RX1 36 "HintedPages$Store" "validOfBlock" "[I", Cond.fieldLink RX1 39 "HintedPages$Store" "erasuresOfBlock" "[I", Cond.fieldLink RX1 42 "HintedPages$Store" "closingOfBlock" "[I", Cond.fieldLink RX1 45 "HintedPages$Store" "openOfStream" "[I", Cond.fieldLink RX1 48 "HintedPages$Store" "programmedOfStream" "[I", Cond.fieldLink RX1 51 "HintedPages$Store" "copiesOfStream" "[I", Cond.fieldLink RX1 54 "HintedPages$Store" "settings" "[I", Cond.fieldLink RX1 57 "HintedPages$Store" "freeBlocks" "I", Cond.fieldLink RX1 61 "HintedPages$Store" "closings" "I", Cond.methodLink RX1 70 yX1_copyRow, Cond.static yX1_copyRow, Cond.code yX1_copyRow cX1_copyRow 2 none, Cond.methodLink RX1 74 Lib.Math.min.name, Cond.static Lib.Math.min.name, Cond.initialized "java/lang/Math", Cond.code Lib.Math.min.name Lib.Math.min.code 2 (some .int), Cond.methodLink RX1 80 arraycopyName, Cond.native arraycopyName]
def wsX2_writeAll_r5 : List Cond := [Cond.static arraycopyName, Cond.initialized "java/lang/System", Cond.methodLink RX2 60 yX1_writePages, Cond.instanceMethod yX1_writePages, Cond.selects RX1 yX1_writePages yX1_writePages, Cond.code yX1_writePages cX1_writePages 6 (some .int), Cond.methodLink RX1 86 yX1_copies, Cond.instanceMethod yX1_copies, Cond.selects RX1 yX1_copies yX1_copies, Cond.code yX1_copies cX1_copies 1 (some .int), Cond.methodLink RX1 90 yX1_writePage, Cond.instanceMethod yX1_writePage, Cond.selects RX1 yX1_writePage yX1_writePage, Cond.code yX1_writePage cX1_writePage 3 none, Cond.methodLink RX1 94 yX1_collectVictims, Cond.instanceMethod yX1_collectVictims, Cond.selects RX1 yX1_collectVictims yX1_collectVictims, Cond.code yX1_collectVictims cX1_collectVictims 4 (some .int), Cond.constant RX1 105 (1000000), Cond.methodLink RX1 106 yX1_victim, Cond.instanceMethod yX1_victim, Cond.selects RX1 yX1_victim yX1_victim, Cond.code yX1_victim cX1_victim 5 (some .int), Cond.methodLink RX1 113 yX1_rankOf]
def wsX2_writeAll_r6 : List Cond := [Cond.instanceMethod yX1_rankOf, Cond.selects RX1 yX1_rankOf yX1_rankOf, Cond.code yX1_rankOf cX1_rankOf 2 (some .int), Cond.methodLink RX1 109 yX1_collectBlock, Cond.instanceMethod yX1_collectBlock, Cond.selects RX1 yX1_collectBlock yX1_collectBlock, Cond.code yX1_collectBlock cX1_collectBlock 4 none, Cond.methodLink RX1 116 yX1_validPageAt, Cond.instanceMethod yX1_validPageAt, Cond.selects RX1 yX1_validPageAt yX1_validPageAt, Cond.code yX1_validPageAt cX1_validPageAt 3 (some .int), Cond.methodLink RX1 98 yX1_openBlock, Cond.instanceMethod yX1_openBlock, Cond.selects RX1 yX1_openBlock yX1_openBlock, Cond.code yX1_openBlock cX1_openBlock 4 (some .int), Cond.methodLink RX1 101 yX1_program, Cond.instanceMethod yX1_program, Cond.selects RX1 yX1_program yX1_program, Cond.code yX1_program cX1_program 6 none, Cond.methodLink RX1 119 yX1_erase, Cond.instanceMethod yX1_erase, Cond.selects RX1 yX1_erase yX1_erase, Cond.code yX1_erase cX1_erase 3 none]
def wsX2_writeAll : List Cond := .code yX2_writeAll cX2_writeAll 3 (some .int) :: ((wsX2_writeAll_r1 ++ (wsX2_writeAll_r2 ++ (wsX2_writeAll_r3 ++ (wsX2_writeAll_r4 ++ (wsX2_writeAll_r5 ++ wsX2_writeAll_r6))))) ++ wsX20 ++ wsX00 ++ wsX10 ++ (vx_atS RX2 56 "java/lang/IllegalArgumentException" ["java/lang/RuntimeException", "java/lang/Exception"]).filter goodWord)
def wsX2_undo : List Cond := .code yX2_undo cX2_undo 2 (some .int) :: ([.classLink RX2 78 "java/lang/IllegalStateException", .initialized "java/lang/IllegalStateException", .fieldLink RX2 23 "HintedPages" "savedStates" "I", .fieldLink RX2 10 "HintedPages" "store" "LHintedPages$Store;", .fieldLink RX2 19 "HintedPages" "saved" "[LHintedPages$Store;"] ++ wsX20 ++ (vx_atS RX2 82 "java/lang/IllegalStateException" ["java/lang/RuntimeException", "java/lang/Exception"]).filter goodWord)
def wsX2_page_r1 : List Cond := [Cond.classLink RX2 45 "java/lang/IndexOutOfBoundsException", Cond.initialized "java/lang/IndexOutOfBoundsException", Cond.classLink RX2 52 "java/lang/IllegalArgumentException", Cond.initialized "java/lang/IllegalArgumentException", Cond.fieldLink RX2 10 "HintedPages" "store" "LHintedPages$Store;", Cond.methodLink RX2 41 yX2_isIn, Cond.static yX2_isIn, Cond.initialized RX2, Cond.code yX2_isIn cX2_isIn 2 (some .boolean), Cond.methodLink RX2 147 yX1_pageProperty, Cond.instanceMethod yX1_pageProperty, Cond.selects RX1 yX1_pageProperty yX1_pageProperty, Cond.initialized RX1, Cond.code yX1_pageProperty cX1_pageProperty 3 (some .int), Cond.fieldLink RX1 9 "HintedPages$Store" "placeOfPage" "[I", Cond.fieldLink RX1 15 "HintedPages$Store" "hintOfPage" "[I", Cond.fieldLink RX1 18 "HintedPages$Store" "writesOfPage" "[I", Cond.fieldLink RX1 21 "HintedPages$Store" "copiesOfPage" "[I", Cond.fieldLink RX1 24 "HintedPages$Store" "copiesSinceWrite" "[I", Cond.methodLink RX1 126 yX1_blockOf, Cond.instanceMethod yX1_blockOf, Cond.selects RX1 yX1_blockOf yX1_blockOf, Cond.code yX1_blockOf cX1_blockOf 2 (some .int), Cond.methodLink RX1 122 yX1_isWritten]
def wsX2_page_r2 : List Cond := [Cond.instanceMethod yX1_isWritten, Cond.selects RX1 yX1_isWritten yX1_isWritten, Cond.code yX1_isWritten cX1_isWritten 2 (some .boolean)]
def wsX2_page : List Cond := .code yX2_page cX2_page 3 (some .int) :: ((wsX2_page_r1 ++ wsX2_page_r2) ++ wsX20 ++ wsX10 ++ (vx_atS RX2 49 "java/lang/IndexOutOfBoundsException" ["java/lang/RuntimeException", "java/lang/Exception"]).filter goodWord ++ (vx_atS RX2 56 "java/lang/IllegalArgumentException" ["java/lang/RuntimeException", "java/lang/Exception"]).filter goodWord)
def wsX2_block_r1 : List Cond := [Cond.classLink RX2 45 "java/lang/IndexOutOfBoundsException", Cond.initialized "java/lang/IndexOutOfBoundsException", Cond.classLink RX2 52 "java/lang/IllegalArgumentException", Cond.initialized "java/lang/IllegalArgumentException", Cond.fieldLink RX2 10 "HintedPages" "store" "LHintedPages$Store;", Cond.methodLink RX2 41 yX2_isIn, Cond.static yX2_isIn, Cond.initialized RX2, Cond.code yX2_isIn cX2_isIn 2 (some .boolean), Cond.methodLink RX2 151 yX1_blockProperty, Cond.instanceMethod yX1_blockProperty, Cond.selects RX1 yX1_blockProperty yX1_blockProperty, Cond.initialized RX1, Cond.code yX1_blockProperty cX1_blockProperty 3 (some .int), Cond.fieldLink RX1 30 "HintedPages$Store" "streamOfBlock" "[I", Cond.fieldLink RX1 36 "HintedPages$Store" "validOfBlock" "[I", Cond.fieldLink RX1 33 "HintedPages$Store" "programmedOfBlock" "[I", Cond.fieldLink RX1 39 "HintedPages$Store" "erasuresOfBlock" "[I", Cond.methodLink RX1 129 yX1_stateOf, Cond.instanceMethod yX1_stateOf, Cond.selects RX1 yX1_stateOf yX1_stateOf, Cond.code yX1_stateOf cX1_stateOf 2 (some .int), Cond.methodLink RX1 132 yX1_closedAheadOf, Cond.instanceMethod yX1_closedAheadOf]
def wsX2_block_r2 : List Cond := [Cond.selects RX1 yX1_closedAheadOf yX1_closedAheadOf, Cond.code yX1_closedAheadOf cX1_closedAheadOf 4 (some .int), Cond.fieldLink RX1 42 "HintedPages$Store" "closingOfBlock" "[I", Cond.methodLink RX1 135 yX1_unlikeHintsOf, Cond.instanceMethod yX1_unlikeHintsOf, Cond.selects RX1 yX1_unlikeHintsOf yX1_unlikeHintsOf, Cond.code yX1_unlikeHintsOf cX1_unlikeHintsOf 5 (some .int), Cond.fieldLink RX1 15 "HintedPages$Store" "hintOfPage" "[I", Cond.methodLink RX1 116 yX1_validPageAt, Cond.instanceMethod yX1_validPageAt, Cond.selects RX1 yX1_validPageAt yX1_validPageAt, Cond.code yX1_validPageAt cX1_validPageAt 3 (some .int), Cond.fieldLink RX1 27 "HintedPages$Store" "pageAt" "[I", Cond.fieldLink RX1 9 "HintedPages$Store" "placeOfPage" "[I", Cond.methodLink RX1 138 yJ6_bitCount_0f7a4, Cond.static yJ6_bitCount_0f7a4, Cond.initialized RJ6, Cond.code yJ6_bitCount_0f7a4 cJ6_bitCount_0f7a4 1 (some .int), Cond.constant RJ6 265 (1431655765), Cond.constant RJ6 266 (858993459), Cond.constant RJ6 267 (252645135)]
def wsX2_block : List Cond := .code yX2_block cX2_block 3 (some .int) :: ((wsX2_block_r1 ++ wsX2_block_r2) ++ wsX20 ++ wsX10 ++ (vx_atS RX2 49 "java/lang/IndexOutOfBoundsException" ["java/lang/RuntimeException", "java/lang/Exception"]).filter goodWord ++ (vx_atS RX2 56 "java/lang/IllegalArgumentException" ["java/lang/RuntimeException", "java/lang/Exception"]).filter goodWord)
def wsX2_slot : List Cond := .code yX2_slot cX2_slot 5 (some .int) :: ([.classLink RX2 45 "java/lang/IndexOutOfBoundsException", .initialized "java/lang/IndexOutOfBoundsException", .fieldLink RX2 10 "HintedPages" "store" "LHintedPages$Store;", .fieldLink RX2 159 "HintedPages$Store" "pageAt" "[I", .methodLink RX2 41 yX2_isIn, .static yX2_isIn, .initialized RX2, .code yX2_isIn cX2_isIn 2 (some .boolean), .methodLink RX2 156 yX1_validPageAt, .instanceMethod yX1_validPageAt, .selects RX1 yX1_validPageAt yX1_validPageAt, .initialized RX1, .code yX1_validPageAt cX1_validPageAt 3 (some .int), .fieldLink RX1 27 "HintedPages$Store" "pageAt" "[I", .fieldLink RX1 9 "HintedPages$Store" "placeOfPage" "[I"] ++ wsX20 ++ wsX10 ++ (vx_atS RX2 49 "java/lang/IndexOutOfBoundsException" ["java/lang/RuntimeException", "java/lang/Exception"]).filter goodWord)
def wsX2_stream_r1 : List Cond := [Cond.classLink RX2 45 "java/lang/IndexOutOfBoundsException", Cond.initialized "java/lang/IndexOutOfBoundsException", Cond.classLink RX2 52 "java/lang/IllegalArgumentException", Cond.initialized "java/lang/IllegalArgumentException", Cond.fieldLink RX2 10 "HintedPages" "store" "LHintedPages$Store;", Cond.methodLink RX2 41 yX2_isIn, Cond.static yX2_isIn, Cond.initialized RX2, Cond.code yX2_isIn cX2_isIn 2 (some .boolean), Cond.methodLink RX2 164 yX1_streamProperty, Cond.instanceMethod yX1_streamProperty, Cond.selects RX1 yX1_streamProperty yX1_streamProperty, Cond.initialized RX1, Cond.code yX1_streamProperty cX1_streamProperty 3 (some .int), Cond.fieldLink RX1 45 "HintedPages$Store" "openOfStream" "[I", Cond.fieldLink RX1 48 "HintedPages$Store" "programmedOfStream" "[I", Cond.fieldLink RX1 51 "HintedPages$Store" "copiesOfStream" "[I", Cond.methodLink RX1 143 yX1_pagesWithHint, Cond.instanceMethod yX1_pagesWithHint, Cond.selects RX1 yX1_pagesWithHint yX1_pagesWithHint, Cond.code yX1_pagesWithHint cX1_pagesWithHint 4 (some .int), Cond.fieldLink RX1 15 "HintedPages$Store" "hintOfPage" "[I", Cond.methodLink RX1 122 yX1_isWritten, Cond.instanceMethod yX1_isWritten]
def wsX2_stream_r2 : List Cond := [Cond.selects RX1 yX1_isWritten yX1_isWritten, Cond.code yX1_isWritten cX1_isWritten 2 (some .boolean), Cond.fieldLink RX1 9 "HintedPages$Store" "placeOfPage" "[I", Cond.methodLink RX1 146 yX1_percentOf, Cond.instanceMethod yX1_percentOf, Cond.selects RX1 yX1_percentOf yX1_percentOf, Cond.code yX1_percentOf cX1_percentOf 3 (some .int)]
def wsX2_stream : List Cond := .code yX2_stream cX2_stream 3 (some .int) :: ((wsX2_stream_r1 ++ wsX2_stream_r2) ++ wsX20 ++ wsX10 ++ (vx_atS RX2 49 "java/lang/IndexOutOfBoundsException" ["java/lang/RuntimeException", "java/lang/Exception"]).filter goodWord ++ (vx_atS RX2 56 "java/lang/IllegalArgumentException" ["java/lang/RuntimeException", "java/lang/Exception"]).filter goodWord)
def wsX2_count_r1 : List Cond := [Cond.classLink RX2 52 "java/lang/IllegalArgumentException", Cond.initialized "java/lang/IllegalArgumentException", Cond.fieldLink RX2 23 "HintedPages" "savedStates" "I", Cond.fieldLink RX2 10 "HintedPages" "store" "LHintedPages$Store;", Cond.methodLink RX2 41 yX2_isIn, Cond.static yX2_isIn, Cond.initialized RX2, Cond.code yX2_isIn cX2_isIn 2 (some .boolean), Cond.methodLink RX2 167 yX1_total, Cond.instanceMethod yX1_total, Cond.selects RX1 yX1_total yX1_total, Cond.initialized RX1, Cond.code yX1_total cX1_total 2 (some .int), Cond.fieldLink RX1 36 "HintedPages$Store" "validOfBlock" "[I", Cond.fieldLink RX1 57 "HintedPages$Store" "freeBlocks" "I", Cond.fieldLink RX1 33 "HintedPages$Store" "programmedOfBlock" "[I", Cond.methodLink RX1 149 yX1_sum, Cond.static yX1_sum, Cond.code yX1_sum cX1_sum 6 (some .int), Cond.methodLink RX1 153 yX1_openBlocks, Cond.instanceMethod yX1_openBlocks, Cond.selects RX1 yX1_openBlocks yX1_openBlocks, Cond.code yX1_openBlocks cX1_openBlocks 3 (some .int), Cond.fieldLink RX1 45 "HintedPages$Store" "openOfStream" "[I"]
def wsX2_count_r2 : List Cond := [Cond.methodLink RX1 156 yX1_writes, Cond.instanceMethod yX1_writes, Cond.selects RX1 yX1_writes yX1_writes, Cond.code yX1_writes cX1_writes 1 (some .int), Cond.fieldLink RX1 18 "HintedPages$Store" "writesOfPage" "[I", Cond.methodLink RX1 86 yX1_copies, Cond.instanceMethod yX1_copies, Cond.selects RX1 yX1_copies yX1_copies, Cond.code yX1_copies cX1_copies 1 (some .int), Cond.fieldLink RX1 48 "HintedPages$Store" "programmedOfStream" "[I", Cond.methodLink RX1 159 yX1_erasures, Cond.instanceMethod yX1_erasures, Cond.selects RX1 yX1_erasures yX1_erasures, Cond.code yX1_erasures cX1_erasures 1 (some .int), Cond.fieldLink RX1 39 "HintedPages$Store" "erasuresOfBlock" "[I", Cond.methodLink RX1 162 yX1_spreadOfErasures, Cond.instanceMethod yX1_spreadOfErasures, Cond.selects RX1 yX1_spreadOfErasures yX1_spreadOfErasures, Cond.code yX1_spreadOfErasures cX1_spreadOfErasures 4 (some .int), Cond.methodLink RX1 165 Lib.Math.max.name, Cond.static Lib.Math.max.name, Cond.initialized "java/lang/Math", Cond.code Lib.Math.max.name Lib.Math.max.code 2 (some .int), Cond.methodLink RX1 74 Lib.Math.min.name]
def wsX2_count_r3 : List Cond := [Cond.static Lib.Math.min.name, Cond.code Lib.Math.min.name Lib.Math.min.code 2 (some .int), Cond.methodLink RX1 106 yX1_victim, Cond.instanceMethod yX1_victim, Cond.selects RX1 yX1_victim yX1_victim, Cond.code yX1_victim cX1_victim 5 (some .int), Cond.methodLink RX1 113 yX1_rankOf, Cond.instanceMethod yX1_rankOf, Cond.selects RX1 yX1_rankOf yX1_rankOf, Cond.code yX1_rankOf cX1_rankOf 2 (some .int), Cond.fieldLink RX1 54 "HintedPages$Store" "settings" "[I", Cond.fieldLink RX1 42 "HintedPages$Store" "closingOfBlock" "[I"]
def wsX2_count : List Cond := .code yX2_count cX2_count 2 (some .int) :: ((wsX2_count_r1 ++ (wsX2_count_r2 ++ wsX2_count_r3)) ++ wsX20 ++ wsX10 ++ (vx_atS RX2 56 "java/lang/IllegalArgumentException" ["java/lang/RuntimeException", "java/lang/Exception"]).filter goodWord)
def wsX2_setting : List Cond := .code yX2_setting cX2_setting 2 (some .int) :: ([.classLink RX2 45 "java/lang/IndexOutOfBoundsException", .initialized "java/lang/IndexOutOfBoundsException", .fieldLink RX2 10 "HintedPages" "store" "LHintedPages$Store;", .fieldLink RX2 112 "HintedPages$Store" "settings" "[I", .methodLink RX2 41 yX2_isIn, .static yX2_isIn, .initialized RX2, .code yX2_isIn cX2_isIn 2 (some .boolean)] ++ wsX20 ++ wsX10 ++ (vx_atS RX2 49 "java/lang/IndexOutOfBoundsException" ["java/lang/RuntimeException", "java/lang/Exception"]).filter goodWord)
def wsX2_tryWriting_r1 : List Cond := [Cond.fieldLink RX2 16 "HintedPages" "trial" "LHintedPages$Store;", Cond.fieldLink RX2 10 "HintedPages" "store" "LHintedPages$Store;", Cond.methodLink RX2 224 yX1_becomeLike, Cond.instanceMethod yX1_becomeLike, Cond.selects RX1 yX1_becomeLike yX1_becomeLike, Cond.initialized RX1, Cond.code yX1_becomeLike cX1_becomeLike 2 none, Cond.fieldLink RX1 9 "HintedPages$Store" "placeOfPage" "[I", Cond.fieldLink RX1 15 "HintedPages$Store" "hintOfPage" "[I", Cond.fieldLink RX1 18 "HintedPages$Store" "writesOfPage" "[I", Cond.fieldLink RX1 21 "HintedPages$Store" "copiesOfPage" "[I", Cond.fieldLink RX1 24 "HintedPages$Store" "copiesSinceWrite" "[I", Cond.fieldLink RX1 27 "HintedPages$Store" "pageAt" "[I", Cond.fieldLink RX1 30 "HintedPages$Store" "streamOfBlock" "[I", Cond.fieldLink RX1 33 "HintedPages$Store" "programmedOfBlock" "[I", Cond.fieldLink RX1 36 "HintedPages$Store" "validOfBlock" "[I", Cond.fieldLink RX1 39 "HintedPages$Store" "erasuresOfBlock" "[I", Cond.fieldLink RX1 42 "HintedPages$Store" "closingOfBlock" "[I", Cond.fieldLink RX1 45 "HintedPages$Store" "openOfStream" "[I", Cond.fieldLink RX1 48 "HintedPages$Store" "programmedOfStream" "[I", Cond.fieldLink RX1 51 "HintedPages$Store" "copiesOfStream" "[I", Cond.fieldLink RX1 54 "HintedPages$Store" "settings" "[I", Cond.fieldLink RX1 57 "HintedPages$Store" "freeBlocks" "I", Cond.fieldLink RX1 61 "HintedPages$Store" "closings" "I"]
def wsX2_tryWriting_r2 : List Cond := [Cond.methodLink RX1 70 yX1_copyRow, Cond.static yX1_copyRow, Cond.code yX1_copyRow cX1_copyRow 2 none, Cond.methodLink RX1 74 Lib.Math.min.name, Cond.static Lib.Math.min.name, Cond.initialized "java/lang/Math", Cond.code Lib.Math.min.name Lib.Math.min.code 2 (some .int), Cond.methodLink RX1 80 arraycopyName, Cond.native arraycopyName, Cond.static arraycopyName, Cond.initialized "java/lang/System", Cond.methodLink RX2 228 yX1_writePage, Cond.instanceMethod yX1_writePage, Cond.selects RX1 yX1_writePage yX1_writePage, Cond.code yX1_writePage cX1_writePage 3 none, Cond.methodLink RX1 94 yX1_collectVictims, Cond.instanceMethod yX1_collectVictims, Cond.selects RX1 yX1_collectVictims yX1_collectVictims, Cond.code yX1_collectVictims cX1_collectVictims 4 (some .int), Cond.constant RX1 105 (1000000), Cond.methodLink RX1 106 yX1_victim, Cond.instanceMethod yX1_victim, Cond.selects RX1 yX1_victim yX1_victim, Cond.code yX1_victim cX1_victim 5 (some .int)]
def wsX2_tryWriting_r3 : List Cond := [Cond.methodLink RX1 113 yX1_rankOf, Cond.instanceMethod yX1_rankOf, Cond.selects RX1 yX1_rankOf yX1_rankOf, Cond.code yX1_rankOf cX1_rankOf 2 (some .int), Cond.methodLink RX1 109 yX1_collectBlock, Cond.instanceMethod yX1_collectBlock, Cond.selects RX1 yX1_collectBlock yX1_collectBlock, Cond.code yX1_collectBlock cX1_collectBlock 4 none, Cond.methodLink RX1 116 yX1_validPageAt, Cond.instanceMethod yX1_validPageAt, Cond.selects RX1 yX1_validPageAt yX1_validPageAt, Cond.code yX1_validPageAt cX1_validPageAt 3 (some .int), Cond.methodLink RX1 98 yX1_openBlock, Cond.instanceMethod yX1_openBlock, Cond.selects RX1 yX1_openBlock yX1_openBlock, Cond.code yX1_openBlock cX1_openBlock 4 (some .int), Cond.methodLink RX1 101 yX1_program, Cond.instanceMethod yX1_program, Cond.selects RX1 yX1_program yX1_program, Cond.code yX1_program cX1_program 6 none, Cond.methodLink RX1 119 yX1_erase, Cond.instanceMethod yX1_erase, Cond.selects RX1 yX1_erase yX1_erase, Cond.code yX1_erase cX1_erase 3 none]
def wsX2_tryWriting : List Cond := .code yX2_tryWriting cX2_tryWriting 3 none :: ((wsX2_tryWriting_r1 ++ (wsX2_tryWriting_r2 ++ wsX2_tryWriting_r3)) ++ wsX20 ++ wsX10)
def wsX2_forecast_r1 : List Cond := [Cond.fieldLink RX2 16 "HintedPages" "trial" "LHintedPages$Store;", Cond.fieldLink RX2 10 "HintedPages" "store" "LHintedPages$Store;", Cond.methodLink RX2 93 yX1_copies, Cond.instanceMethod yX1_copies, Cond.selects RX1 yX1_copies yX1_copies, Cond.initialized RX1, Cond.code yX1_copies cX1_copies 1 (some .int), Cond.fieldLink RX1 48 "HintedPages$Store" "programmedOfStream" "[I", Cond.methodLink RX2 66 yX1_blockOf, Cond.instanceMethod yX1_blockOf, Cond.selects RX1 yX1_blockOf yX1_blockOf, Cond.code yX1_blockOf cX1_blockOf 2 (some .int), Cond.fieldLink RX1 9 "HintedPages$Store" "placeOfPage" "[I", Cond.methodLink RX1 122 yX1_isWritten, Cond.instanceMethod yX1_isWritten, Cond.selects RX1 yX1_isWritten yX1_isWritten, Cond.code yX1_isWritten cX1_isWritten 2 (some .boolean), Cond.methodLink RX2 231 yX1_erasures, Cond.instanceMethod yX1_erasures, Cond.selects RX1 yX1_erasures yX1_erasures, Cond.code yX1_erasures cX1_erasures 1 (some .int), Cond.fieldLink RX1 39 "HintedPages$Store" "erasuresOfBlock" "[I", Cond.methodLink RX1 149 yX1_sum, Cond.static yX1_sum]
def wsX2_forecast_r2 : List Cond := [Cond.code yX1_sum cX1_sum 6 (some .int)]
def wsX2_forecast : List Cond := .code yX2_forecast cX2_forecast 3 (some .int) :: ((wsX2_forecast_r1 ++ wsX2_forecast_r2) ++ wsX20 ++ wsX10)
def wsX2_ifWritten_r1 : List Cond := [Cond.classLink RX2 45 "java/lang/IndexOutOfBoundsException", Cond.initialized "java/lang/IndexOutOfBoundsException", Cond.classLink RX2 52 "java/lang/IllegalArgumentException", Cond.initialized "java/lang/IllegalArgumentException", Cond.methodLink RX2 41 yX2_isIn, Cond.static yX2_isIn, Cond.initialized RX2, Cond.code yX2_isIn cX2_isIn 2 (some .boolean), Cond.methodLink RX2 170 yX2_tryWriting, Cond.instanceMethod yX2_tryWriting, Cond.selects RX2 yX2_tryWriting yX2_tryWriting, Cond.code yX2_tryWriting cX2_tryWriting 3 none, Cond.fieldLink RX2 16 "HintedPages" "trial" "LHintedPages$Store;", Cond.fieldLink RX2 10 "HintedPages" "store" "LHintedPages$Store;", Cond.methodLink RX2 224 yX1_becomeLike, Cond.instanceMethod yX1_becomeLike, Cond.selects RX1 yX1_becomeLike yX1_becomeLike, Cond.initialized RX1, Cond.code yX1_becomeLike cX1_becomeLike 2 none, Cond.fieldLink RX1 9 "HintedPages$Store" "placeOfPage" "[I", Cond.fieldLink RX1 15 "HintedPages$Store" "hintOfPage" "[I", Cond.fieldLink RX1 18 "HintedPages$Store" "writesOfPage" "[I", Cond.fieldLink RX1 21 "HintedPages$Store" "copiesOfPage" "[I", Cond.fieldLink RX1 24 "HintedPages$Store" "copiesSinceWrite" "[I"]
def wsX2_ifWritten_r2 : List Cond := [Cond.fieldLink RX1 27 "HintedPages$Store" "pageAt" "[I", Cond.fieldLink RX1 30 "HintedPages$Store" "streamOfBlock" "[I", Cond.fieldLink RX1 33 "HintedPages$Store" "programmedOfBlock" "[I", Cond.fieldLink RX1 36 "HintedPages$Store" "validOfBlock" "[I", Cond.fieldLink RX1 39 "HintedPages$Store" "erasuresOfBlock" "[I", Cond.fieldLink RX1 42 "HintedPages$Store" "closingOfBlock" "[I", Cond.fieldLink RX1 45 "HintedPages$Store" "openOfStream" "[I", Cond.fieldLink RX1 48 "HintedPages$Store" "programmedOfStream" "[I", Cond.fieldLink RX1 51 "HintedPages$Store" "copiesOfStream" "[I", Cond.fieldLink RX1 54 "HintedPages$Store" "settings" "[I", Cond.fieldLink RX1 57 "HintedPages$Store" "freeBlocks" "I", Cond.fieldLink RX1 61 "HintedPages$Store" "closings" "I", Cond.methodLink RX1 70 yX1_copyRow, Cond.static yX1_copyRow, Cond.code yX1_copyRow cX1_copyRow 2 none, Cond.methodLink RX1 74 Lib.Math.min.name, Cond.static Lib.Math.min.name, Cond.initialized "java/lang/Math", Cond.code Lib.Math.min.name Lib.Math.min.code 2 (some .int), Cond.methodLink RX1 80 arraycopyName, Cond.native arraycopyName, Cond.static arraycopyName, Cond.initialized "java/lang/System", Cond.methodLink RX2 228 yX1_writePage]
def wsX2_ifWritten_r3 : List Cond := [Cond.instanceMethod yX1_writePage, Cond.selects RX1 yX1_writePage yX1_writePage, Cond.code yX1_writePage cX1_writePage 3 none, Cond.methodLink RX1 94 yX1_collectVictims, Cond.instanceMethod yX1_collectVictims, Cond.selects RX1 yX1_collectVictims yX1_collectVictims, Cond.code yX1_collectVictims cX1_collectVictims 4 (some .int), Cond.constant RX1 105 (1000000), Cond.methodLink RX1 106 yX1_victim, Cond.instanceMethod yX1_victim, Cond.selects RX1 yX1_victim yX1_victim, Cond.code yX1_victim cX1_victim 5 (some .int), Cond.methodLink RX1 113 yX1_rankOf, Cond.instanceMethod yX1_rankOf, Cond.selects RX1 yX1_rankOf yX1_rankOf, Cond.code yX1_rankOf cX1_rankOf 2 (some .int), Cond.methodLink RX1 109 yX1_collectBlock, Cond.instanceMethod yX1_collectBlock, Cond.selects RX1 yX1_collectBlock yX1_collectBlock, Cond.code yX1_collectBlock cX1_collectBlock 4 none, Cond.methodLink RX1 116 yX1_validPageAt, Cond.instanceMethod yX1_validPageAt, Cond.selects RX1 yX1_validPageAt yX1_validPageAt, Cond.code yX1_validPageAt cX1_validPageAt 3 (some .int)]
def wsX2_ifWritten_r4 : List Cond := [Cond.methodLink RX1 98 yX1_openBlock, Cond.instanceMethod yX1_openBlock, Cond.selects RX1 yX1_openBlock yX1_openBlock, Cond.code yX1_openBlock cX1_openBlock 4 (some .int), Cond.methodLink RX1 101 yX1_program, Cond.instanceMethod yX1_program, Cond.selects RX1 yX1_program yX1_program, Cond.code yX1_program cX1_program 6 none, Cond.methodLink RX1 119 yX1_erase, Cond.instanceMethod yX1_erase, Cond.selects RX1 yX1_erase yX1_erase, Cond.code yX1_erase cX1_erase 3 none, Cond.methodLink RX2 174 yX2_forecast, Cond.instanceMethod yX2_forecast, Cond.selects RX2 yX2_forecast yX2_forecast, Cond.code yX2_forecast cX2_forecast 3 (some .int), Cond.methodLink RX2 93 yX1_copies, Cond.instanceMethod yX1_copies, Cond.selects RX1 yX1_copies yX1_copies, Cond.code yX1_copies cX1_copies 1 (some .int), Cond.methodLink RX2 66 yX1_blockOf, Cond.instanceMethod yX1_blockOf, Cond.selects RX1 yX1_blockOf yX1_blockOf, Cond.code yX1_blockOf cX1_blockOf 2 (some .int)]
def wsX2_ifWritten_r5 : List Cond := [Cond.methodLink RX1 122 yX1_isWritten, Cond.instanceMethod yX1_isWritten, Cond.selects RX1 yX1_isWritten yX1_isWritten, Cond.code yX1_isWritten cX1_isWritten 2 (some .boolean), Cond.methodLink RX2 231 yX1_erasures, Cond.instanceMethod yX1_erasures, Cond.selects RX1 yX1_erasures yX1_erasures, Cond.code yX1_erasures cX1_erasures 1 (some .int), Cond.methodLink RX1 149 yX1_sum, Cond.static yX1_sum, Cond.code yX1_sum cX1_sum 6 (some .int)]
def wsX2_ifWritten : List Cond := .code yX2_ifWritten cX2_ifWritten 4 (some .int) :: ((wsX2_ifWritten_r1 ++ (wsX2_ifWritten_r2 ++ (wsX2_ifWritten_r3 ++ (wsX2_ifWritten_r4 ++ wsX2_ifWritten_r5)))) ++ wsX20 ++ wsX10 ++ (vx_atS RX2 49 "java/lang/IndexOutOfBoundsException" ["java/lang/RuntimeException", "java/lang/Exception"]).filter goodWord ++ (vx_atS RX2 56 "java/lang/IllegalArgumentException" ["java/lang/RuntimeException", "java/lang/Exception"]).filter goodWord)
def wsX2_copiesOfRewriting_r1 : List Cond := [Cond.fieldLink RX2 16 "HintedPages" "trial" "LHintedPages$Store;", Cond.fieldLink RX2 10 "HintedPages" "store" "LHintedPages$Store;", Cond.fieldLink RX2 112 "HintedPages$Store" "settings" "[I", Cond.fieldLink RX2 83 "HintedPages$Store" "hintOfPage" "[I", Cond.methodLink RX2 224 yX1_becomeLike, Cond.instanceMethod yX1_becomeLike, Cond.selects RX1 yX1_becomeLike yX1_becomeLike, Cond.initialized RX1, Cond.code yX1_becomeLike cX1_becomeLike 2 none, Cond.fieldLink RX1 9 "HintedPages$Store" "placeOfPage" "[I", Cond.fieldLink RX1 15 "HintedPages$Store" "hintOfPage" "[I", Cond.fieldLink RX1 18 "HintedPages$Store" "writesOfPage" "[I", Cond.fieldLink RX1 21 "HintedPages$Store" "copiesOfPage" "[I", Cond.fieldLink RX1 24 "HintedPages$Store" "copiesSinceWrite" "[I", Cond.fieldLink RX1 27 "HintedPages$Store" "pageAt" "[I", Cond.fieldLink RX1 30 "HintedPages$Store" "streamOfBlock" "[I", Cond.fieldLink RX1 33 "HintedPages$Store" "programmedOfBlock" "[I", Cond.fieldLink RX1 36 "HintedPages$Store" "validOfBlock" "[I", Cond.fieldLink RX1 39 "HintedPages$Store" "erasuresOfBlock" "[I", Cond.fieldLink RX1 42 "HintedPages$Store" "closingOfBlock" "[I", Cond.fieldLink RX1 45 "HintedPages$Store" "openOfStream" "[I", Cond.fieldLink RX1 48 "HintedPages$Store" "programmedOfStream" "[I", Cond.fieldLink RX1 51 "HintedPages$Store" "copiesOfStream" "[I", Cond.fieldLink RX1 54 "HintedPages$Store" "settings" "[I"]
def wsX2_copiesOfRewriting_r2 : List Cond := [Cond.fieldLink RX1 57 "HintedPages$Store" "freeBlocks" "I", Cond.fieldLink RX1 61 "HintedPages$Store" "closings" "I", Cond.methodLink RX1 70 yX1_copyRow, Cond.static yX1_copyRow, Cond.code yX1_copyRow cX1_copyRow 2 none, Cond.methodLink RX1 74 Lib.Math.min.name, Cond.static Lib.Math.min.name, Cond.initialized "java/lang/Math", Cond.code Lib.Math.min.name Lib.Math.min.code 2 (some .int), Cond.methodLink RX1 80 arraycopyName, Cond.native arraycopyName, Cond.static arraycopyName, Cond.initialized "java/lang/System", Cond.methodLink RX2 74 yX1_isWritten, Cond.instanceMethod yX1_isWritten, Cond.selects RX1 yX1_isWritten yX1_isWritten, Cond.code yX1_isWritten cX1_isWritten 2 (some .boolean), Cond.methodLink RX2 228 yX1_writePage, Cond.instanceMethod yX1_writePage, Cond.selects RX1 yX1_writePage yX1_writePage, Cond.code yX1_writePage cX1_writePage 3 none, Cond.methodLink RX1 94 yX1_collectVictims, Cond.instanceMethod yX1_collectVictims, Cond.selects RX1 yX1_collectVictims yX1_collectVictims]
def wsX2_copiesOfRewriting_r3 : List Cond := [Cond.code yX1_collectVictims cX1_collectVictims 4 (some .int), Cond.constant RX1 105 (1000000), Cond.methodLink RX1 106 yX1_victim, Cond.instanceMethod yX1_victim, Cond.selects RX1 yX1_victim yX1_victim, Cond.code yX1_victim cX1_victim 5 (some .int), Cond.methodLink RX1 113 yX1_rankOf, Cond.instanceMethod yX1_rankOf, Cond.selects RX1 yX1_rankOf yX1_rankOf, Cond.code yX1_rankOf cX1_rankOf 2 (some .int), Cond.methodLink RX1 109 yX1_collectBlock, Cond.instanceMethod yX1_collectBlock, Cond.selects RX1 yX1_collectBlock yX1_collectBlock, Cond.code yX1_collectBlock cX1_collectBlock 4 none, Cond.methodLink RX1 116 yX1_validPageAt, Cond.instanceMethod yX1_validPageAt, Cond.selects RX1 yX1_validPageAt yX1_validPageAt, Cond.code yX1_validPageAt cX1_validPageAt 3 (some .int), Cond.methodLink RX1 98 yX1_openBlock, Cond.instanceMethod yX1_openBlock, Cond.selects RX1 yX1_openBlock yX1_openBlock, Cond.code yX1_openBlock cX1_openBlock 4 (some .int), Cond.methodLink RX1 101 yX1_program, Cond.instanceMethod yX1_program]
def wsX2_copiesOfRewriting_r4 : List Cond := [Cond.selects RX1 yX1_program yX1_program, Cond.code yX1_program cX1_program 6 none, Cond.methodLink RX1 119 yX1_erase, Cond.instanceMethod yX1_erase, Cond.selects RX1 yX1_erase yX1_erase, Cond.code yX1_erase cX1_erase 3 none, Cond.methodLink RX2 93 yX1_copies, Cond.instanceMethod yX1_copies, Cond.selects RX1 yX1_copies yX1_copies, Cond.code yX1_copies cX1_copies 1 (some .int)]
def wsX2_copiesOfRewriting : List Cond := .code yX2_copiesOfRewriting cX2_copiesOfRewriting 5 (some .int) :: ((wsX2_copiesOfRewriting_r1 ++ (wsX2_copiesOfRewriting_r2 ++ (wsX2_copiesOfRewriting_r3 ++ wsX2_copiesOfRewriting_r4))) ++ wsX20 ++ wsX10)
def wsX2_ifRewritten_r1 : List Cond := [Cond.classLink RX2 52 "java/lang/IllegalArgumentException", Cond.initialized "java/lang/IllegalArgumentException", Cond.fieldLink RX2 10 "HintedPages" "store" "LHintedPages$Store;", Cond.fieldLink RX2 112 "HintedPages$Store" "settings" "[I", Cond.methodLink RX2 179 yX2_copiesOfRewriting, Cond.instanceMethod yX2_copiesOfRewriting, Cond.selects RX2 yX2_copiesOfRewriting yX2_copiesOfRewriting, Cond.initialized RX2, Cond.code yX2_copiesOfRewriting cX2_copiesOfRewriting 5 (some .int), Cond.fieldLink RX2 16 "HintedPages" "trial" "LHintedPages$Store;", Cond.fieldLink RX2 83 "HintedPages$Store" "hintOfPage" "[I", Cond.methodLink RX2 224 yX1_becomeLike, Cond.instanceMethod yX1_becomeLike, Cond.selects RX1 yX1_becomeLike yX1_becomeLike, Cond.initialized RX1, Cond.code yX1_becomeLike cX1_becomeLike 2 none, Cond.fieldLink RX1 9 "HintedPages$Store" "placeOfPage" "[I", Cond.fieldLink RX1 15 "HintedPages$Store" "hintOfPage" "[I", Cond.fieldLink RX1 18 "HintedPages$Store" "writesOfPage" "[I", Cond.fieldLink RX1 21 "HintedPages$Store" "copiesOfPage" "[I", Cond.fieldLink RX1 24 "HintedPages$Store" "copiesSinceWrite" "[I", Cond.fieldLink RX1 27 "HintedPages$Store" "pageAt" "[I", Cond.fieldLink RX1 30 "HintedPages$Store" "streamOfBlock" "[I", Cond.fieldLink RX1 33 "HintedPages$Store" "programmedOfBlock" "[I"]
def wsX2_ifRewritten_r2 : List Cond := [Cond.fieldLink RX1 36 "HintedPages$Store" "validOfBlock" "[I", Cond.fieldLink RX1 39 "HintedPages$Store" "erasuresOfBlock" "[I", Cond.fieldLink RX1 42 "HintedPages$Store" "closingOfBlock" "[I", Cond.fieldLink RX1 45 "HintedPages$Store" "openOfStream" "[I", Cond.fieldLink RX1 48 "HintedPages$Store" "programmedOfStream" "[I", Cond.fieldLink RX1 51 "HintedPages$Store" "copiesOfStream" "[I", Cond.fieldLink RX1 54 "HintedPages$Store" "settings" "[I", Cond.fieldLink RX1 57 "HintedPages$Store" "freeBlocks" "I", Cond.fieldLink RX1 61 "HintedPages$Store" "closings" "I", Cond.methodLink RX1 70 yX1_copyRow, Cond.static yX1_copyRow, Cond.code yX1_copyRow cX1_copyRow 2 none, Cond.methodLink RX1 74 Lib.Math.min.name, Cond.static Lib.Math.min.name, Cond.initialized "java/lang/Math", Cond.code Lib.Math.min.name Lib.Math.min.code 2 (some .int), Cond.methodLink RX1 80 arraycopyName, Cond.native arraycopyName, Cond.static arraycopyName, Cond.initialized "java/lang/System", Cond.methodLink RX2 74 yX1_isWritten, Cond.instanceMethod yX1_isWritten, Cond.selects RX1 yX1_isWritten yX1_isWritten, Cond.code yX1_isWritten cX1_isWritten 2 (some .boolean)]
def wsX2_ifRewritten_r3 : List Cond := [Cond.methodLink RX2 228 yX1_writePage, Cond.instanceMethod yX1_writePage, Cond.selects RX1 yX1_writePage yX1_writePage, Cond.code yX1_writePage cX1_writePage 3 none, Cond.methodLink RX1 94 yX1_collectVictims, Cond.instanceMethod yX1_collectVictims, Cond.selects RX1 yX1_collectVictims yX1_collectVictims, Cond.code yX1_collectVictims cX1_collectVictims 4 (some .int), Cond.constant RX1 105 (1000000), Cond.methodLink RX1 106 yX1_victim, Cond.instanceMethod yX1_victim, Cond.selects RX1 yX1_victim yX1_victim, Cond.code yX1_victim cX1_victim 5 (some .int), Cond.methodLink RX1 113 yX1_rankOf, Cond.instanceMethod yX1_rankOf, Cond.selects RX1 yX1_rankOf yX1_rankOf, Cond.code yX1_rankOf cX1_rankOf 2 (some .int), Cond.methodLink RX1 109 yX1_collectBlock, Cond.instanceMethod yX1_collectBlock, Cond.selects RX1 yX1_collectBlock yX1_collectBlock, Cond.code yX1_collectBlock cX1_collectBlock 4 none, Cond.methodLink RX1 116 yX1_validPageAt, Cond.instanceMethod yX1_validPageAt, Cond.selects RX1 yX1_validPageAt yX1_validPageAt]
def wsX2_ifRewritten_r4 : List Cond := [Cond.code yX1_validPageAt cX1_validPageAt 3 (some .int), Cond.methodLink RX1 98 yX1_openBlock, Cond.instanceMethod yX1_openBlock, Cond.selects RX1 yX1_openBlock yX1_openBlock, Cond.code yX1_openBlock cX1_openBlock 4 (some .int), Cond.methodLink RX1 101 yX1_program, Cond.instanceMethod yX1_program, Cond.selects RX1 yX1_program yX1_program, Cond.code yX1_program cX1_program 6 none, Cond.methodLink RX1 119 yX1_erase, Cond.instanceMethod yX1_erase, Cond.selects RX1 yX1_erase yX1_erase, Cond.code yX1_erase cX1_erase 3 none, Cond.methodLink RX2 93 yX1_copies, Cond.instanceMethod yX1_copies, Cond.selects RX1 yX1_copies yX1_copies, Cond.code yX1_copies cX1_copies 1 (some .int)]
def wsX2_ifRewritten : List Cond := .code yX2_ifRewritten cX2_ifRewritten 2 (some .int) :: ((wsX2_ifRewritten_r1 ++ (wsX2_ifRewritten_r2 ++ (wsX2_ifRewritten_r3 ++ wsX2_ifRewritten_r4))) ++ wsX20 ++ wsX10 ++ (vx_atS RX2 56 "java/lang/IllegalArgumentException" ["java/lang/RuntimeException", "java/lang/Exception"]).filter goodWord)
def wsX2_bestRule_r1 : List Cond := [Cond.classLink RX2 52 "java/lang/IllegalArgumentException", Cond.initialized "java/lang/IllegalArgumentException", Cond.methodLink RX2 179 yX2_copiesOfRewriting, Cond.instanceMethod yX2_copiesOfRewriting, Cond.selects RX2 yX2_copiesOfRewriting yX2_copiesOfRewriting, Cond.initialized RX2, Cond.code yX2_copiesOfRewriting cX2_copiesOfRewriting 5 (some .int), Cond.fieldLink RX2 16 "HintedPages" "trial" "LHintedPages$Store;", Cond.fieldLink RX2 10 "HintedPages" "store" "LHintedPages$Store;", Cond.fieldLink RX2 112 "HintedPages$Store" "settings" "[I", Cond.fieldLink RX2 83 "HintedPages$Store" "hintOfPage" "[I", Cond.methodLink RX2 224 yX1_becomeLike, Cond.instanceMethod yX1_becomeLike, Cond.selects RX1 yX1_becomeLike yX1_becomeLike, Cond.initialized RX1, Cond.code yX1_becomeLike cX1_becomeLike 2 none, Cond.fieldLink RX1 9 "HintedPages$Store" "placeOfPage" "[I", Cond.fieldLink RX1 15 "HintedPages$Store" "hintOfPage" "[I", Cond.fieldLink RX1 18 "HintedPages$Store" "writesOfPage" "[I", Cond.fieldLink RX1 21 "HintedPages$Store" "copiesOfPage" "[I", Cond.fieldLink RX1 24 "HintedPages$Store" "copiesSinceWrite" "[I", Cond.fieldLink RX1 27 "HintedPages$Store" "pageAt" "[I", Cond.fieldLink RX1 30 "HintedPages$Store" "streamOfBlock" "[I", Cond.fieldLink RX1 33 "HintedPages$Store" "programmedOfBlock" "[I"]
def wsX2_bestRule_r2 : List Cond := [Cond.fieldLink RX1 36 "HintedPages$Store" "validOfBlock" "[I", Cond.fieldLink RX1 39 "HintedPages$Store" "erasuresOfBlock" "[I", Cond.fieldLink RX1 42 "HintedPages$Store" "closingOfBlock" "[I", Cond.fieldLink RX1 45 "HintedPages$Store" "openOfStream" "[I", Cond.fieldLink RX1 48 "HintedPages$Store" "programmedOfStream" "[I", Cond.fieldLink RX1 51 "HintedPages$Store" "copiesOfStream" "[I", Cond.fieldLink RX1 54 "HintedPages$Store" "settings" "[I", Cond.fieldLink RX1 57 "HintedPages$Store" "freeBlocks" "I", Cond.fieldLink RX1 61 "HintedPages$Store" "closings" "I", Cond.methodLink RX1 70 yX1_copyRow, Cond.static yX1_copyRow, Cond.code yX1_copyRow cX1_copyRow 2 none, Cond.methodLink RX1 74 Lib.Math.min.name, Cond.static Lib.Math.min.name, Cond.initialized "java/lang/Math", Cond.code Lib.Math.min.name Lib.Math.min.code 2 (some .int), Cond.methodLink RX1 80 arraycopyName, Cond.native arraycopyName, Cond.static arraycopyName, Cond.initialized "java/lang/System", Cond.methodLink RX2 74 yX1_isWritten, Cond.instanceMethod yX1_isWritten, Cond.selects RX1 yX1_isWritten yX1_isWritten, Cond.code yX1_isWritten cX1_isWritten 2 (some .boolean)]
def wsX2_bestRule_r3 : List Cond := [Cond.methodLink RX2 228 yX1_writePage, Cond.instanceMethod yX1_writePage, Cond.selects RX1 yX1_writePage yX1_writePage, Cond.code yX1_writePage cX1_writePage 3 none, Cond.methodLink RX1 94 yX1_collectVictims, Cond.instanceMethod yX1_collectVictims, Cond.selects RX1 yX1_collectVictims yX1_collectVictims, Cond.code yX1_collectVictims cX1_collectVictims 4 (some .int), Cond.constant RX1 105 (1000000), Cond.methodLink RX1 106 yX1_victim, Cond.instanceMethod yX1_victim, Cond.selects RX1 yX1_victim yX1_victim, Cond.code yX1_victim cX1_victim 5 (some .int), Cond.methodLink RX1 113 yX1_rankOf, Cond.instanceMethod yX1_rankOf, Cond.selects RX1 yX1_rankOf yX1_rankOf, Cond.code yX1_rankOf cX1_rankOf 2 (some .int), Cond.methodLink RX1 109 yX1_collectBlock, Cond.instanceMethod yX1_collectBlock, Cond.selects RX1 yX1_collectBlock yX1_collectBlock, Cond.code yX1_collectBlock cX1_collectBlock 4 none, Cond.methodLink RX1 116 yX1_validPageAt, Cond.instanceMethod yX1_validPageAt, Cond.selects RX1 yX1_validPageAt yX1_validPageAt]
def wsX2_bestRule_r4 : List Cond := [Cond.code yX1_validPageAt cX1_validPageAt 3 (some .int), Cond.methodLink RX1 98 yX1_openBlock, Cond.instanceMethod yX1_openBlock, Cond.selects RX1 yX1_openBlock yX1_openBlock, Cond.code yX1_openBlock cX1_openBlock 4 (some .int), Cond.methodLink RX1 101 yX1_program, Cond.instanceMethod yX1_program, Cond.selects RX1 yX1_program yX1_program, Cond.code yX1_program cX1_program 6 none, Cond.methodLink RX1 119 yX1_erase, Cond.instanceMethod yX1_erase, Cond.selects RX1 yX1_erase yX1_erase, Cond.code yX1_erase cX1_erase 3 none, Cond.methodLink RX2 93 yX1_copies, Cond.instanceMethod yX1_copies, Cond.selects RX1 yX1_copies yX1_copies, Cond.code yX1_copies cX1_copies 1 (some .int)]
def wsX2_bestRule : List Cond := .code yX2_bestRule cX2_bestRule 6 (some .int) :: ((wsX2_bestRule_r1 ++ (wsX2_bestRule_r2 ++ (wsX2_bestRule_r3 ++ wsX2_bestRule_r4))) ++ wsX20 ++ wsX10 ++ (vx_atS RX2 56 "java/lang/IllegalArgumentException" ["java/lang/RuntimeException", "java/lang/Exception"]).filter goodWord)
def wsX2_amplification : List Cond := .code yX2_amplification cX2_amplification 2 (some .double) :: ([.fieldLink RX2 10 "HintedPages" "store" "LHintedPages$Store;", .methodLink RX2 182 yX1_writes, .instanceMethod yX1_writes, .selects RX1 yX1_writes yX1_writes, .initialized RX1, .code yX1_writes cX1_writes 1 (some .int), .fieldLink RX1 18 "HintedPages$Store" "writesOfPage" "[I", .methodLink RX1 149 yX1_sum, .static yX1_sum, .code yX1_sum cX1_sum 6 (some .int), .methodLink RX2 93 yX1_copies, .instanceMethod yX1_copies, .selects RX1 yX1_copies yX1_copies, .code yX1_copies cX1_copies 1 (some .int), .fieldLink RX1 48 "HintedPages$Store" "programmedOfStream" "[I"] ++ wsX20 ++ wsX10)
def wsX2_mixed : List Cond := .code yX2_mixed cX2_mixed 4 (some .long) :: ([.constantLong RX2 234 (31)])
def wsX2_withPages : List Cond := .code yX2_withPages cX2_withPages 7 (some .long) :: ([.fieldLink RX2 10 "HintedPages" "store" "LHintedPages$Store;", .methodLink RX2 147 yX1_pageProperty, .instanceMethod yX1_pageProperty, .selects RX1 yX1_pageProperty yX1_pageProperty, .initialized RX1, .code yX1_pageProperty cX1_pageProperty 3 (some .int), .fieldLink RX1 9 "HintedPages$Store" "placeOfPage" "[I", .fieldLink RX1 15 "HintedPages$Store" "hintOfPage" "[I", .fieldLink RX1 18 "HintedPages$Store" "writesOfPage" "[I", .fieldLink RX1 21 "HintedPages$Store" "copiesOfPage" "[I", .fieldLink RX1 24 "HintedPages$Store" "copiesSinceWrite" "[I", .methodLink RX1 126 yX1_blockOf, .instanceMethod yX1_blockOf, .selects RX1 yX1_blockOf yX1_blockOf, .code yX1_blockOf cX1_blockOf 2 (some .int), .methodLink RX1 122 yX1_isWritten, .instanceMethod yX1_isWritten, .selects RX1 yX1_isWritten yX1_isWritten, .code yX1_isWritten cX1_isWritten 2 (some .boolean), .methodLink RX2 190 yX2_mixed, .static yX2_mixed, .initialized RX2, .code yX2_mixed cX2_mixed 4 (some .long), .constantLong RX2 234 (31)] ++ wsX20 ++ wsX10)
def wsX2_withBlocks_r1 : List Cond := [Cond.fieldLink RX2 10 "HintedPages" "store" "LHintedPages$Store;", Cond.fieldLink RX2 159 "HintedPages$Store" "pageAt" "[I", Cond.methodLink RX2 151 yX1_blockProperty, Cond.instanceMethod yX1_blockProperty, Cond.selects RX1 yX1_blockProperty yX1_blockProperty, Cond.initialized RX1, Cond.code yX1_blockProperty cX1_blockProperty 3 (some .int), Cond.fieldLink RX1 30 "HintedPages$Store" "streamOfBlock" "[I", Cond.fieldLink RX1 36 "HintedPages$Store" "validOfBlock" "[I", Cond.fieldLink RX1 33 "HintedPages$Store" "programmedOfBlock" "[I", Cond.fieldLink RX1 39 "HintedPages$Store" "erasuresOfBlock" "[I", Cond.methodLink RX1 129 yX1_stateOf, Cond.instanceMethod yX1_stateOf, Cond.selects RX1 yX1_stateOf yX1_stateOf, Cond.code yX1_stateOf cX1_stateOf 2 (some .int), Cond.methodLink RX1 132 yX1_closedAheadOf, Cond.instanceMethod yX1_closedAheadOf, Cond.selects RX1 yX1_closedAheadOf yX1_closedAheadOf, Cond.code yX1_closedAheadOf cX1_closedAheadOf 4 (some .int), Cond.fieldLink RX1 42 "HintedPages$Store" "closingOfBlock" "[I", Cond.methodLink RX1 135 yX1_unlikeHintsOf, Cond.instanceMethod yX1_unlikeHintsOf, Cond.selects RX1 yX1_unlikeHintsOf yX1_unlikeHintsOf, Cond.code yX1_unlikeHintsOf cX1_unlikeHintsOf 5 (some .int)]
def wsX2_withBlocks_r2 : List Cond := [Cond.fieldLink RX1 15 "HintedPages$Store" "hintOfPage" "[I", Cond.methodLink RX1 116 yX1_validPageAt, Cond.instanceMethod yX1_validPageAt, Cond.selects RX1 yX1_validPageAt yX1_validPageAt, Cond.code yX1_validPageAt cX1_validPageAt 3 (some .int), Cond.fieldLink RX1 27 "HintedPages$Store" "pageAt" "[I", Cond.fieldLink RX1 9 "HintedPages$Store" "placeOfPage" "[I", Cond.methodLink RX1 138 yJ6_bitCount_0f7a4, Cond.static yJ6_bitCount_0f7a4, Cond.initialized RJ6, Cond.code yJ6_bitCount_0f7a4 cJ6_bitCount_0f7a4 1 (some .int), Cond.constant RJ6 265 (1431655765), Cond.constant RJ6 266 (858993459), Cond.constant RJ6 267 (252645135), Cond.methodLink RX2 190 yX2_mixed, Cond.static yX2_mixed, Cond.initialized RX2, Cond.code yX2_mixed cX2_mixed 4 (some .long), Cond.constantLong RX2 234 (31)]
def wsX2_withBlocks : List Cond := .code yX2_withBlocks cX2_withBlocks 7 (some .long) :: ((wsX2_withBlocks_r1 ++ wsX2_withBlocks_r2) ++ wsX20 ++ wsX10)
def wsX2_withStreams_r1 : List Cond := [Cond.fieldLink RX2 10 "HintedPages" "store" "LHintedPages$Store;", Cond.methodLink RX2 164 yX1_streamProperty, Cond.instanceMethod yX1_streamProperty, Cond.selects RX1 yX1_streamProperty yX1_streamProperty, Cond.initialized RX1, Cond.code yX1_streamProperty cX1_streamProperty 3 (some .int), Cond.fieldLink RX1 45 "HintedPages$Store" "openOfStream" "[I", Cond.fieldLink RX1 48 "HintedPages$Store" "programmedOfStream" "[I", Cond.fieldLink RX1 51 "HintedPages$Store" "copiesOfStream" "[I", Cond.methodLink RX1 143 yX1_pagesWithHint, Cond.instanceMethod yX1_pagesWithHint, Cond.selects RX1 yX1_pagesWithHint yX1_pagesWithHint, Cond.code yX1_pagesWithHint cX1_pagesWithHint 4 (some .int), Cond.fieldLink RX1 15 "HintedPages$Store" "hintOfPage" "[I", Cond.methodLink RX1 122 yX1_isWritten, Cond.instanceMethod yX1_isWritten, Cond.selects RX1 yX1_isWritten yX1_isWritten, Cond.code yX1_isWritten cX1_isWritten 2 (some .boolean), Cond.fieldLink RX1 9 "HintedPages$Store" "placeOfPage" "[I", Cond.methodLink RX1 146 yX1_percentOf, Cond.instanceMethod yX1_percentOf, Cond.selects RX1 yX1_percentOf yX1_percentOf, Cond.code yX1_percentOf cX1_percentOf 3 (some .int), Cond.methodLink RX2 190 yX2_mixed]
def wsX2_withStreams_r2 : List Cond := [Cond.static yX2_mixed, Cond.initialized RX2, Cond.code yX2_mixed cX2_mixed 4 (some .long), Cond.constantLong RX2 234 (31)]
def wsX2_withStreams : List Cond := .code yX2_withStreams cX2_withStreams 7 (some .long) :: ((wsX2_withStreams_r1 ++ wsX2_withStreams_r2) ++ wsX20 ++ wsX10)
def wsX2_withForecasts_r1 : List Cond := [Cond.methodLink RX2 170 yX2_tryWriting, Cond.instanceMethod yX2_tryWriting, Cond.selects RX2 yX2_tryWriting yX2_tryWriting, Cond.initialized RX2, Cond.code yX2_tryWriting cX2_tryWriting 3 none, Cond.fieldLink RX2 16 "HintedPages" "trial" "LHintedPages$Store;", Cond.fieldLink RX2 10 "HintedPages" "store" "LHintedPages$Store;", Cond.methodLink RX2 224 yX1_becomeLike, Cond.instanceMethod yX1_becomeLike, Cond.selects RX1 yX1_becomeLike yX1_becomeLike, Cond.initialized RX1, Cond.code yX1_becomeLike cX1_becomeLike 2 none, Cond.fieldLink RX1 9 "HintedPages$Store" "placeOfPage" "[I", Cond.fieldLink RX1 15 "HintedPages$Store" "hintOfPage" "[I", Cond.fieldLink RX1 18 "HintedPages$Store" "writesOfPage" "[I", Cond.fieldLink RX1 21 "HintedPages$Store" "copiesOfPage" "[I", Cond.fieldLink RX1 24 "HintedPages$Store" "copiesSinceWrite" "[I", Cond.fieldLink RX1 27 "HintedPages$Store" "pageAt" "[I", Cond.fieldLink RX1 30 "HintedPages$Store" "streamOfBlock" "[I", Cond.fieldLink RX1 33 "HintedPages$Store" "programmedOfBlock" "[I", Cond.fieldLink RX1 36 "HintedPages$Store" "validOfBlock" "[I", Cond.fieldLink RX1 39 "HintedPages$Store" "erasuresOfBlock" "[I", Cond.fieldLink RX1 42 "HintedPages$Store" "closingOfBlock" "[I", Cond.fieldLink RX1 45 "HintedPages$Store" "openOfStream" "[I"]
def wsX2_withForecasts_r2 : List Cond := [Cond.fieldLink RX1 48 "HintedPages$Store" "programmedOfStream" "[I", Cond.fieldLink RX1 51 "HintedPages$Store" "copiesOfStream" "[I", Cond.fieldLink RX1 54 "HintedPages$Store" "settings" "[I", Cond.fieldLink RX1 57 "HintedPages$Store" "freeBlocks" "I", Cond.fieldLink RX1 61 "HintedPages$Store" "closings" "I", Cond.methodLink RX1 70 yX1_copyRow, Cond.static yX1_copyRow, Cond.code yX1_copyRow cX1_copyRow 2 none, Cond.methodLink RX1 74 Lib.Math.min.name, Cond.static Lib.Math.min.name, Cond.initialized "java/lang/Math", Cond.code Lib.Math.min.name Lib.Math.min.code 2 (some .int), Cond.methodLink RX1 80 arraycopyName, Cond.native arraycopyName, Cond.static arraycopyName, Cond.initialized "java/lang/System", Cond.methodLink RX2 228 yX1_writePage, Cond.instanceMethod yX1_writePage, Cond.selects RX1 yX1_writePage yX1_writePage, Cond.code yX1_writePage cX1_writePage 3 none, Cond.methodLink RX1 94 yX1_collectVictims, Cond.instanceMethod yX1_collectVictims, Cond.selects RX1 yX1_collectVictims yX1_collectVictims, Cond.code yX1_collectVictims cX1_collectVictims 4 (some .int)]
def wsX2_withForecasts_r3 : List Cond := [Cond.constant RX1 105 (1000000), Cond.methodLink RX1 106 yX1_victim, Cond.instanceMethod yX1_victim, Cond.selects RX1 yX1_victim yX1_victim, Cond.code yX1_victim cX1_victim 5 (some .int), Cond.methodLink RX1 113 yX1_rankOf, Cond.instanceMethod yX1_rankOf, Cond.selects RX1 yX1_rankOf yX1_rankOf, Cond.code yX1_rankOf cX1_rankOf 2 (some .int), Cond.methodLink RX1 109 yX1_collectBlock, Cond.instanceMethod yX1_collectBlock, Cond.selects RX1 yX1_collectBlock yX1_collectBlock, Cond.code yX1_collectBlock cX1_collectBlock 4 none, Cond.methodLink RX1 116 yX1_validPageAt, Cond.instanceMethod yX1_validPageAt, Cond.selects RX1 yX1_validPageAt yX1_validPageAt, Cond.code yX1_validPageAt cX1_validPageAt 3 (some .int), Cond.methodLink RX1 98 yX1_openBlock, Cond.instanceMethod yX1_openBlock, Cond.selects RX1 yX1_openBlock yX1_openBlock, Cond.code yX1_openBlock cX1_openBlock 4 (some .int), Cond.methodLink RX1 101 yX1_program, Cond.instanceMethod yX1_program, Cond.selects RX1 yX1_program yX1_program]
def wsX2_withForecasts_r4 : List Cond := [Cond.code yX1_program cX1_program 6 none, Cond.methodLink RX1 119 yX1_erase, Cond.instanceMethod yX1_erase, Cond.selects RX1 yX1_erase yX1_erase, Cond.code yX1_erase cX1_erase 3 none, Cond.methodLink RX2 174 yX2_forecast, Cond.instanceMethod yX2_forecast, Cond.selects RX2 yX2_forecast yX2_forecast, Cond.code yX2_forecast cX2_forecast 3 (some .int), Cond.methodLink RX2 93 yX1_copies, Cond.instanceMethod yX1_copies, Cond.selects RX1 yX1_copies yX1_copies, Cond.code yX1_copies cX1_copies 1 (some .int), Cond.methodLink RX2 66 yX1_blockOf, Cond.instanceMethod yX1_blockOf, Cond.selects RX1 yX1_blockOf yX1_blockOf, Cond.code yX1_blockOf cX1_blockOf 2 (some .int), Cond.methodLink RX1 122 yX1_isWritten, Cond.instanceMethod yX1_isWritten, Cond.selects RX1 yX1_isWritten yX1_isWritten, Cond.code yX1_isWritten cX1_isWritten 2 (some .boolean), Cond.methodLink RX2 231 yX1_erasures, Cond.instanceMethod yX1_erasures, Cond.selects RX1 yX1_erasures yX1_erasures]
def wsX2_withForecasts_r5 : List Cond := [Cond.code yX1_erasures cX1_erasures 1 (some .int), Cond.methodLink RX1 149 yX1_sum, Cond.static yX1_sum, Cond.code yX1_sum cX1_sum 6 (some .int), Cond.methodLink RX2 190 yX2_mixed, Cond.static yX2_mixed, Cond.code yX2_mixed cX2_mixed 4 (some .long), Cond.constantLong RX2 234 (31)]
def wsX2_withForecasts : List Cond := .code yX2_withForecasts cX2_withForecasts 7 (some .long) :: ((wsX2_withForecasts_r1 ++ (wsX2_withForecasts_r2 ++ (wsX2_withForecasts_r3 ++ (wsX2_withForecasts_r4 ++ wsX2_withForecasts_r5)))) ++ wsX20 ++ wsX10)
def wsX2_bitsOf : List Cond := .code yX2_bitsOf cX2_bitsOf 7 (some .long) :: ([.constantLong RX2 236 (1023), .constantDouble RX2 238 (4611686018427387904), .constantDouble RX2 240 (4841369599423283200)])
def wsX2_digest_r1 : List Cond := [Cond.constantLong RX2 185 (2731), Cond.fieldLink RX2 10 "HintedPages" "store" "LHintedPages$Store;", Cond.fieldLink RX2 112 "HintedPages$Store" "settings" "[I", Cond.fieldLink RX2 31 "HintedPages" "length" "I", Cond.fieldLink RX2 27 "HintedPages" "codes" "[I", Cond.methodLink RX2 187 yX2_count, Cond.instanceMethod yX2_count, Cond.selects RX2 yX2_count yX2_count, Cond.initialized RX2, Cond.code yX2_count cX2_count 2 (some .int), Cond.classLink RX2 52 "java/lang/IllegalArgumentException", Cond.initialized "java/lang/IllegalArgumentException", Cond.fieldLink RX2 23 "HintedPages" "savedStates" "I", Cond.methodLink RX2 41 yX2_isIn, Cond.static yX2_isIn, Cond.code yX2_isIn cX2_isIn 2 (some .boolean), Cond.methodLink RX2 167 yX1_total, Cond.instanceMethod yX1_total, Cond.selects RX1 yX1_total yX1_total, Cond.initialized RX1, Cond.code yX1_total cX1_total 2 (some .int), Cond.fieldLink RX1 36 "HintedPages$Store" "validOfBlock" "[I", Cond.fieldLink RX1 57 "HintedPages$Store" "freeBlocks" "I", Cond.fieldLink RX1 33 "HintedPages$Store" "programmedOfBlock" "[I"]
def wsX2_digest_r2 : List Cond := [Cond.methodLink RX1 149 yX1_sum, Cond.static yX1_sum, Cond.code yX1_sum cX1_sum 6 (some .int), Cond.methodLink RX1 153 yX1_openBlocks, Cond.instanceMethod yX1_openBlocks, Cond.selects RX1 yX1_openBlocks yX1_openBlocks, Cond.code yX1_openBlocks cX1_openBlocks 3 (some .int), Cond.fieldLink RX1 45 "HintedPages$Store" "openOfStream" "[I", Cond.methodLink RX1 156 yX1_writes, Cond.instanceMethod yX1_writes, Cond.selects RX1 yX1_writes yX1_writes, Cond.code yX1_writes cX1_writes 1 (some .int), Cond.fieldLink RX1 18 "HintedPages$Store" "writesOfPage" "[I", Cond.methodLink RX1 86 yX1_copies, Cond.instanceMethod yX1_copies, Cond.selects RX1 yX1_copies yX1_copies, Cond.code yX1_copies cX1_copies 1 (some .int), Cond.fieldLink RX1 48 "HintedPages$Store" "programmedOfStream" "[I", Cond.methodLink RX1 159 yX1_erasures, Cond.instanceMethod yX1_erasures, Cond.selects RX1 yX1_erasures yX1_erasures, Cond.code yX1_erasures cX1_erasures 1 (some .int), Cond.fieldLink RX1 39 "HintedPages$Store" "erasuresOfBlock" "[I", Cond.methodLink RX1 162 yX1_spreadOfErasures]
def wsX2_digest_r3 : List Cond := [Cond.instanceMethod yX1_spreadOfErasures, Cond.selects RX1 yX1_spreadOfErasures yX1_spreadOfErasures, Cond.code yX1_spreadOfErasures cX1_spreadOfErasures 4 (some .int), Cond.methodLink RX1 165 Lib.Math.max.name, Cond.static Lib.Math.max.name, Cond.initialized "java/lang/Math", Cond.code Lib.Math.max.name Lib.Math.max.code 2 (some .int), Cond.methodLink RX1 74 Lib.Math.min.name, Cond.static Lib.Math.min.name, Cond.code Lib.Math.min.name Lib.Math.min.code 2 (some .int), Cond.methodLink RX1 106 yX1_victim, Cond.instanceMethod yX1_victim, Cond.selects RX1 yX1_victim yX1_victim, Cond.code yX1_victim cX1_victim 5 (some .int), Cond.methodLink RX1 113 yX1_rankOf, Cond.instanceMethod yX1_rankOf, Cond.selects RX1 yX1_rankOf yX1_rankOf, Cond.code yX1_rankOf cX1_rankOf 2 (some .int), Cond.fieldLink RX1 54 "HintedPages$Store" "settings" "[I", Cond.fieldLink RX1 42 "HintedPages$Store" "closingOfBlock" "[I", Cond.methodLink RX2 190 yX2_mixed, Cond.static yX2_mixed, Cond.code yX2_mixed cX2_mixed 4 (some .long), Cond.constantLong RX2 234 (31)]
def wsX2_digest_r4 : List Cond := [Cond.methodLink RX2 194 yX2_withPages, Cond.instanceMethod yX2_withPages, Cond.selects RX2 yX2_withPages yX2_withPages, Cond.code yX2_withPages cX2_withPages 7 (some .long), Cond.methodLink RX2 147 yX1_pageProperty, Cond.instanceMethod yX1_pageProperty, Cond.selects RX1 yX1_pageProperty yX1_pageProperty, Cond.code yX1_pageProperty cX1_pageProperty 3 (some .int), Cond.fieldLink RX1 9 "HintedPages$Store" "placeOfPage" "[I", Cond.fieldLink RX1 15 "HintedPages$Store" "hintOfPage" "[I", Cond.fieldLink RX1 21 "HintedPages$Store" "copiesOfPage" "[I", Cond.fieldLink RX1 24 "HintedPages$Store" "copiesSinceWrite" "[I", Cond.methodLink RX1 126 yX1_blockOf, Cond.instanceMethod yX1_blockOf, Cond.selects RX1 yX1_blockOf yX1_blockOf, Cond.code yX1_blockOf cX1_blockOf 2 (some .int), Cond.methodLink RX1 122 yX1_isWritten, Cond.instanceMethod yX1_isWritten, Cond.selects RX1 yX1_isWritten yX1_isWritten, Cond.code yX1_isWritten cX1_isWritten 2 (some .boolean), Cond.methodLink RX2 198 yX2_withBlocks, Cond.instanceMethod yX2_withBlocks, Cond.selects RX2 yX2_withBlocks yX2_withBlocks, Cond.code yX2_withBlocks cX2_withBlocks 7 (some .long)]
def wsX2_digest_r5 : List Cond := [Cond.fieldLink RX2 159 "HintedPages$Store" "pageAt" "[I", Cond.methodLink RX2 151 yX1_blockProperty, Cond.instanceMethod yX1_blockProperty, Cond.selects RX1 yX1_blockProperty yX1_blockProperty, Cond.code yX1_blockProperty cX1_blockProperty 3 (some .int), Cond.fieldLink RX1 30 "HintedPages$Store" "streamOfBlock" "[I", Cond.methodLink RX1 129 yX1_stateOf, Cond.instanceMethod yX1_stateOf, Cond.selects RX1 yX1_stateOf yX1_stateOf, Cond.code yX1_stateOf cX1_stateOf 2 (some .int), Cond.methodLink RX1 132 yX1_closedAheadOf, Cond.instanceMethod yX1_closedAheadOf, Cond.selects RX1 yX1_closedAheadOf yX1_closedAheadOf, Cond.code yX1_closedAheadOf cX1_closedAheadOf 4 (some .int), Cond.methodLink RX1 135 yX1_unlikeHintsOf, Cond.instanceMethod yX1_unlikeHintsOf, Cond.selects RX1 yX1_unlikeHintsOf yX1_unlikeHintsOf, Cond.code yX1_unlikeHintsOf cX1_unlikeHintsOf 5 (some .int), Cond.methodLink RX1 116 yX1_validPageAt, Cond.instanceMethod yX1_validPageAt, Cond.selects RX1 yX1_validPageAt yX1_validPageAt, Cond.code yX1_validPageAt cX1_validPageAt 3 (some .int), Cond.fieldLink RX1 27 "HintedPages$Store" "pageAt" "[I", Cond.methodLink RX1 138 yJ6_bitCount_0f7a4]
def wsX2_digest_r6 : List Cond := [Cond.static yJ6_bitCount_0f7a4, Cond.initialized RJ6, Cond.code yJ6_bitCount_0f7a4 cJ6_bitCount_0f7a4 1 (some .int), Cond.constant RJ6 265 (1431655765), Cond.constant RJ6 266 (858993459), Cond.constant RJ6 267 (252645135), Cond.methodLink RX2 201 yX2_withStreams, Cond.instanceMethod yX2_withStreams, Cond.selects RX2 yX2_withStreams yX2_withStreams, Cond.code yX2_withStreams cX2_withStreams 7 (some .long), Cond.methodLink RX2 164 yX1_streamProperty, Cond.instanceMethod yX1_streamProperty, Cond.selects RX1 yX1_streamProperty yX1_streamProperty, Cond.code yX1_streamProperty cX1_streamProperty 3 (some .int), Cond.fieldLink RX1 51 "HintedPages$Store" "copiesOfStream" "[I", Cond.methodLink RX1 143 yX1_pagesWithHint, Cond.instanceMethod yX1_pagesWithHint, Cond.selects RX1 yX1_pagesWithHint yX1_pagesWithHint, Cond.code yX1_pagesWithHint cX1_pagesWithHint 4 (some .int), Cond.methodLink RX1 146 yX1_percentOf, Cond.instanceMethod yX1_percentOf, Cond.selects RX1 yX1_percentOf yX1_percentOf, Cond.code yX1_percentOf cX1_percentOf 3 (some .int), Cond.methodLink RX2 204 yX2_withForecasts]
def wsX2_digest_r7 : List Cond := [Cond.instanceMethod yX2_withForecasts, Cond.selects RX2 yX2_withForecasts yX2_withForecasts, Cond.code yX2_withForecasts cX2_withForecasts 7 (some .long), Cond.methodLink RX2 170 yX2_tryWriting, Cond.instanceMethod yX2_tryWriting, Cond.selects RX2 yX2_tryWriting yX2_tryWriting, Cond.code yX2_tryWriting cX2_tryWriting 3 none, Cond.fieldLink RX2 16 "HintedPages" "trial" "LHintedPages$Store;", Cond.methodLink RX2 224 yX1_becomeLike, Cond.instanceMethod yX1_becomeLike, Cond.selects RX1 yX1_becomeLike yX1_becomeLike, Cond.code yX1_becomeLike cX1_becomeLike 2 none, Cond.fieldLink RX1 61 "HintedPages$Store" "closings" "I", Cond.methodLink RX1 70 yX1_copyRow, Cond.static yX1_copyRow, Cond.code yX1_copyRow cX1_copyRow 2 none, Cond.methodLink RX1 80 arraycopyName, Cond.native arraycopyName, Cond.static arraycopyName, Cond.initialized "java/lang/System", Cond.methodLink RX2 228 yX1_writePage, Cond.instanceMethod yX1_writePage, Cond.selects RX1 yX1_writePage yX1_writePage, Cond.code yX1_writePage cX1_writePage 3 none]
def wsX2_digest_r8 : List Cond := [Cond.methodLink RX1 94 yX1_collectVictims, Cond.instanceMethod yX1_collectVictims, Cond.selects RX1 yX1_collectVictims yX1_collectVictims, Cond.code yX1_collectVictims cX1_collectVictims 4 (some .int), Cond.constant RX1 105 (1000000), Cond.methodLink RX1 109 yX1_collectBlock, Cond.instanceMethod yX1_collectBlock, Cond.selects RX1 yX1_collectBlock yX1_collectBlock, Cond.code yX1_collectBlock cX1_collectBlock 4 none, Cond.methodLink RX1 98 yX1_openBlock, Cond.instanceMethod yX1_openBlock, Cond.selects RX1 yX1_openBlock yX1_openBlock, Cond.code yX1_openBlock cX1_openBlock 4 (some .int), Cond.methodLink RX1 101 yX1_program, Cond.instanceMethod yX1_program, Cond.selects RX1 yX1_program yX1_program, Cond.code yX1_program cX1_program 6 none, Cond.methodLink RX1 119 yX1_erase, Cond.instanceMethod yX1_erase, Cond.selects RX1 yX1_erase yX1_erase, Cond.code yX1_erase cX1_erase 3 none, Cond.methodLink RX2 174 yX2_forecast, Cond.instanceMethod yX2_forecast, Cond.selects RX2 yX2_forecast yX2_forecast]
def wsX2_digest_r9 : List Cond := [Cond.code yX2_forecast cX2_forecast 3 (some .int), Cond.methodLink RX2 93 yX1_copies, Cond.methodLink RX2 66 yX1_blockOf, Cond.methodLink RX2 231 yX1_erasures, Cond.methodLink RX2 207 yX2_ifRewritten, Cond.instanceMethod yX2_ifRewritten, Cond.selects RX2 yX2_ifRewritten yX2_ifRewritten, Cond.code yX2_ifRewritten cX2_ifRewritten 2 (some .int), Cond.methodLink RX2 179 yX2_copiesOfRewriting, Cond.instanceMethod yX2_copiesOfRewriting, Cond.selects RX2 yX2_copiesOfRewriting yX2_copiesOfRewriting, Cond.code yX2_copiesOfRewriting cX2_copiesOfRewriting 5 (some .int), Cond.fieldLink RX2 83 "HintedPages$Store" "hintOfPage" "[I", Cond.methodLink RX2 74 yX1_isWritten, Cond.methodLink RX2 210 yX2_bestRule, Cond.instanceMethod yX2_bestRule, Cond.selects RX2 yX2_bestRule yX2_bestRule, Cond.code yX2_bestRule cX2_bestRule 6 (some .int), Cond.methodLink RX2 213 yX2_amplification, Cond.instanceMethod yX2_amplification, Cond.selects RX2 yX2_amplification yX2_amplification, Cond.code yX2_amplification cX2_amplification 2 (some .double), Cond.methodLink RX2 182 yX1_writes, Cond.methodLink RX2 217 yX2_bitsOf]
def wsX2_digest_r10 : List Cond := [Cond.static yX2_bitsOf, Cond.code yX2_bitsOf cX2_bitsOf 7 (some .long), Cond.constantLong RX2 236 (1023), Cond.constantDouble RX2 238 (4611686018427387904), Cond.constantDouble RX2 240 (4841369599423283200)]
def wsX2_digest : List Cond := .code yX2_digest cX2_digest 4 (some .long) :: ((wsX2_digest_r1 ++ (wsX2_digest_r2 ++ (wsX2_digest_r3 ++ (wsX2_digest_r4 ++ (wsX2_digest_r5 ++ (wsX2_digest_r6 ++ (wsX2_digest_r7 ++ (wsX2_digest_r8 ++ (wsX2_digest_r9 ++ wsX2_digest_r10))))))))) ++ wsX20 ++ wsX10 ++ (vx_atS RX2 56 "java/lang/IllegalArgumentException" ["java/lang/RuntimeException", "java/lang/Exception"]).filter goodWord)
def wsJ9_max_7cf53 : List Cond := .code yJ9_max_7cf53 cJ9_max_7cf53 2 (some .int) :: ([])
def wsJ9_min_7cf53 : List Cond := .code yJ9_min_7cf53 cJ9_min_7cf53 2 (some .int) :: ([])
def wsL_part : List Cond := .code yL_part cL_part 2 (some .int) :: ([.constant RL 7 (2147483647)])
def wsL_drawn : List Cond := .code yL_drawn cL_drawn 2 (some .int) :: ([.constant RL 8 (2654435)])
def wsL_call_r1 : List Cond := [Cond.methodLink RL 9 yX2_write, Cond.instanceMethod yX2_write, Cond.selects RX2 yX2_write yX2_write, Cond.initialized RX2, Cond.code yX2_write cX2_write 3 (some .int), Cond.classLink RX2 45 "java/lang/IndexOutOfBoundsException", Cond.initialized "java/lang/IndexOutOfBoundsException", Cond.classLink RX2 52 "java/lang/IllegalArgumentException", Cond.initialized "java/lang/IllegalArgumentException", Cond.fieldLink RX2 10 "HintedPages" "store" "LHintedPages$Store;", Cond.methodLink RX2 41 yX2_isIn, Cond.static yX2_isIn, Cond.code yX2_isIn cX2_isIn 2 (some .boolean), Cond.methodLink RX2 57 yX2_saveState, Cond.instanceMethod yX2_saveState, Cond.selects RX2 yX2_saveState yX2_saveState, Cond.code yX2_saveState cX2_saveState 1 none, Cond.fieldLink RX2 23 "HintedPages" "savedStates" "I", Cond.fieldLink RX2 19 "HintedPages" "saved" "[LHintedPages$Store;", Cond.methodLink RX2 221 yX2_dropOldest, Cond.instanceMethod yX2_dropOldest, Cond.selects RX2 yX2_dropOldest yX2_dropOldest, Cond.code yX2_dropOldest cX2_dropOldest 3 none, Cond.methodLink RX2 224 yX1_becomeLike]
def wsL_call_r2 : List Cond := [Cond.instanceMethod yX1_becomeLike, Cond.selects RX1 yX1_becomeLike yX1_becomeLike, Cond.initialized RX1, Cond.code yX1_becomeLike cX1_becomeLike 2 none, Cond.fieldLink RX1 9 "HintedPages$Store" "placeOfPage" "[I", Cond.fieldLink RX1 15 "HintedPages$Store" "hintOfPage" "[I", Cond.fieldLink RX1 18 "HintedPages$Store" "writesOfPage" "[I", Cond.fieldLink RX1 21 "HintedPages$Store" "copiesOfPage" "[I", Cond.fieldLink RX1 24 "HintedPages$Store" "copiesSinceWrite" "[I", Cond.fieldLink RX1 27 "HintedPages$Store" "pageAt" "[I", Cond.fieldLink RX1 30 "HintedPages$Store" "streamOfBlock" "[I", Cond.fieldLink RX1 33 "HintedPages$Store" "programmedOfBlock" "[I", Cond.fieldLink RX1 36 "HintedPages$Store" "validOfBlock" "[I", Cond.fieldLink RX1 39 "HintedPages$Store" "erasuresOfBlock" "[I", Cond.fieldLink RX1 42 "HintedPages$Store" "closingOfBlock" "[I", Cond.fieldLink RX1 45 "HintedPages$Store" "openOfStream" "[I", Cond.fieldLink RX1 48 "HintedPages$Store" "programmedOfStream" "[I", Cond.fieldLink RX1 51 "HintedPages$Store" "copiesOfStream" "[I", Cond.fieldLink RX1 54 "HintedPages$Store" "settings" "[I", Cond.fieldLink RX1 57 "HintedPages$Store" "freeBlocks" "I", Cond.fieldLink RX1 61 "HintedPages$Store" "closings" "I", Cond.methodLink RX1 70 yX1_copyRow, Cond.static yX1_copyRow, Cond.code yX1_copyRow cX1_copyRow 2 none]
def wsL_call_r3 : List Cond := [Cond.methodLink RX1 74 Lib.Math.min.name, Cond.static Lib.Math.min.name, Cond.initialized "java/lang/Math", Cond.code Lib.Math.min.name Lib.Math.min.code 2 (some .int), Cond.methodLink RX1 80 arraycopyName, Cond.native arraycopyName, Cond.static arraycopyName, Cond.initialized "java/lang/System", Cond.methodLink RX2 60 yX1_writePages, Cond.instanceMethod yX1_writePages, Cond.selects RX1 yX1_writePages yX1_writePages, Cond.code yX1_writePages cX1_writePages 6 (some .int), Cond.methodLink RX1 86 yX1_copies, Cond.instanceMethod yX1_copies, Cond.selects RX1 yX1_copies yX1_copies, Cond.code yX1_copies cX1_copies 1 (some .int), Cond.methodLink RX1 90 yX1_writePage, Cond.instanceMethod yX1_writePage, Cond.selects RX1 yX1_writePage yX1_writePage, Cond.code yX1_writePage cX1_writePage 3 none, Cond.methodLink RX1 94 yX1_collectVictims, Cond.instanceMethod yX1_collectVictims, Cond.selects RX1 yX1_collectVictims yX1_collectVictims, Cond.code yX1_collectVictims cX1_collectVictims 4 (some .int)]
def wsL_call_r4 : List Cond := [Cond.constant RX1 105 (1000000), Cond.methodLink RX1 106 yX1_victim, Cond.instanceMethod yX1_victim, Cond.selects RX1 yX1_victim yX1_victim, Cond.code yX1_victim cX1_victim 5 (some .int), Cond.methodLink RX1 113 yX1_rankOf, Cond.instanceMethod yX1_rankOf, Cond.selects RX1 yX1_rankOf yX1_rankOf, Cond.code yX1_rankOf cX1_rankOf 2 (some .int), Cond.methodLink RX1 109 yX1_collectBlock, Cond.instanceMethod yX1_collectBlock, Cond.selects RX1 yX1_collectBlock yX1_collectBlock, Cond.code yX1_collectBlock cX1_collectBlock 4 none, Cond.methodLink RX1 116 yX1_validPageAt, Cond.instanceMethod yX1_validPageAt, Cond.selects RX1 yX1_validPageAt yX1_validPageAt, Cond.code yX1_validPageAt cX1_validPageAt 3 (some .int), Cond.methodLink RX1 98 yX1_openBlock, Cond.instanceMethod yX1_openBlock, Cond.selects RX1 yX1_openBlock yX1_openBlock, Cond.code yX1_openBlock cX1_openBlock 4 (some .int), Cond.methodLink RX1 101 yX1_program, Cond.instanceMethod yX1_program, Cond.selects RX1 yX1_program yX1_program]
def wsL_call_r5 : List Cond := [Cond.code yX1_program cX1_program 6 none, Cond.methodLink RX1 119 yX1_erase, Cond.instanceMethod yX1_erase, Cond.selects RX1 yX1_erase yX1_erase, Cond.code yX1_erase cX1_erase 3 none, Cond.methodLink RL 15 yX2_writeRow, Cond.instanceMethod yX2_writeRow, Cond.selects RX2 yX2_writeRow yX2_writeRow, Cond.code yX2_writeRow cX2_writeRow 4 (some .int), Cond.methodLink RL 19 yX2_trim, Cond.instanceMethod yX2_trim, Cond.selects RX2 yX2_trim yX2_trim, Cond.code yX2_trim cX2_trim 3 (some .int), Cond.methodLink RX2 66 yX1_blockOf, Cond.instanceMethod yX1_blockOf, Cond.selects RX1 yX1_blockOf yX1_blockOf, Cond.code yX1_blockOf cX1_blockOf 2 (some .int), Cond.methodLink RX1 122 yX1_isWritten, Cond.instanceMethod yX1_isWritten, Cond.selects RX1 yX1_isWritten yX1_isWritten, Cond.code yX1_isWritten cX1_isWritten 2 (some .boolean), Cond.methodLink RX2 70 yX1_forget, Cond.instanceMethod yX1_forget, Cond.selects RX1 yX1_forget yX1_forget]
def wsL_call_r6 : List Cond := [Cond.code yX1_forget cX1_forget 3 none, Cond.methodLink RL 23 yX2_hint, Cond.instanceMethod yX2_hint, Cond.selects RX2 yX2_hint yX2_hint, Cond.code yX2_hint cX2_hint 4 (some .int), Cond.classLink RX2 78 "java/lang/IllegalStateException", Cond.initialized "java/lang/IllegalStateException", Cond.fieldLink RX2 83 "HintedPages$Store" "hintOfPage" "[I", Cond.methodLink RX2 74 yX1_isWritten, Cond.methodLink RL 26 yX2_collect, Cond.instanceMethod yX2_collect, Cond.selects RX2 yX2_collect yX2_collect, Cond.code yX2_collect cX2_collect 3 (some .int), Cond.methodLink RX2 88 yX1_stateOf, Cond.instanceMethod yX1_stateOf, Cond.selects RX1 yX1_stateOf yX1_stateOf, Cond.code yX1_stateOf cX1_stateOf 2 (some .int), Cond.methodLink RX2 93 yX1_copies, Cond.methodLink RX2 97 yX1_collectBlock, Cond.methodLink RL 29 yX2_tidy, Cond.instanceMethod yX2_tidy, Cond.selects RX2 yX2_tidy yX2_tidy, Cond.code yX2_tidy cX2_tidy 2 (some .int), Cond.methodLink RX2 102 yX1_collectVictims]
def wsL_call_r7 : List Cond := [Cond.methodLink RL 32 yX2_set, Cond.instanceMethod yX2_set, Cond.selects RX2 yX2_set yX2_set, Cond.code yX2_set cX2_set 4 (some .int), Cond.fieldLink RX2 112 "HintedPages$Store" "settings" "[I", Cond.methodLink RX2 107 yX2_isSettingValue, Cond.static yX2_isSettingValue, Cond.code yX2_isSettingValue cX2_isSettingValue 2 (some .boolean), Cond.methodLink RL 35 yX2_append, Cond.instanceMethod yX2_append, Cond.selects RX2 yX2_append yX2_append, Cond.code yX2_append cX2_append 2 (some .int), Cond.fieldLink RX2 31 "HintedPages" "length" "I", Cond.fieldLink RX2 27 "HintedPages" "codes" "[I", Cond.methodLink RL 38 yX2_writeAll, Cond.instanceMethod yX2_writeAll, Cond.selects RX2 yX2_writeAll yX2_writeAll, Cond.code yX2_writeAll cX2_writeAll 3 (some .int), Cond.fieldLink RX2 37 "HintedPages" "reader" "LHintedPages$Reader;", Cond.fieldLink RX2 134 "HintedPages$Reader" "first" "I", Cond.fieldLink RX2 137 "HintedPages$Reader" "last" "I", Cond.fieldLink RX2 140 "HintedPages$Reader" "hint" "I", Cond.methodLink RX2 119 yX2_readBuffer, Cond.instanceMethod yX2_readBuffer]
def wsL_call_r8 : List Cond := [Cond.selects RX2 yX2_readBuffer yX2_readBuffer, Cond.code yX2_readBuffer cX2_readBuffer 2 (some .int), Cond.methodLink RX2 128 yX0_restart, Cond.instanceMethod yX0_restart, Cond.selects RX0 yX0_restart yX0_restart, Cond.initialized RX0, Cond.code yX0_restart cX0_restart 1 none, Cond.fieldLink RX0 11 "HintedPages$Reader" "behind" "I", Cond.methodLink RX2 131 yX0_accepts, Cond.instanceMethod yX0_accepts, Cond.selects RX0 yX0_accepts yX0_accepts, Cond.code yX0_accepts cX0_accepts 2 (some .boolean), Cond.fieldLink RX0 15 "HintedPages$Reader" "first" "I", Cond.methodLink RX0 24 yX0_acceptsDigit, Cond.instanceMethod yX0_acceptsDigit, Cond.selects RX0 yX0_acceptsDigit yX0_acceptsDigit, Cond.code yX0_acceptsDigit cX0_acceptsDigit 2 (some .boolean), Cond.fieldLink RX0 18 "HintedPages$Reader" "last" "I", Cond.fieldLink RX0 21 "HintedPages$Reader" "hint" "I", Cond.methodLink RX0 28 yX0_goesOn, Cond.instanceMethod yX0_goesOn, Cond.selects RX0 yX0_goesOn yX0_goesOn, Cond.code yX0_goesOn cX0_goesOn 3 (some .boolean), Cond.methodLink RX0 36 yX0_acceptsFirst]
def wsL_call_r9 : List Cond := [Cond.instanceMethod yX0_acceptsFirst, Cond.selects RX0 yX0_acceptsFirst yX0_acceptsFirst, Cond.code yX0_acceptsFirst cX0_acceptsFirst 2 (some .boolean), Cond.methodLink RX0 39 yX0_mayGrow, Cond.static yX0_mayGrow, Cond.code yX0_mayGrow cX0_mayGrow 1 (some .boolean), Cond.methodLink RX0 42 yX0_acceptsLast, Cond.instanceMethod yX0_acceptsLast, Cond.selects RX0 yX0_acceptsLast yX0_acceptsLast, Cond.code yX0_acceptsLast cX0_acceptsLast 3 (some .boolean), Cond.methodLink RX0 46 yX0_acceptsHint, Cond.instanceMethod yX0_acceptsHint, Cond.selects RX0 yX0_acceptsHint yX0_acceptsHint, Cond.code yX0_acceptsHint cX0_acceptsHint 2 (some .boolean), Cond.methodLink RX0 32 yX0_isPartWhole, Cond.instanceMethod yX0_isPartWhole, Cond.selects RX0 yX0_isPartWhole yX0_isPartWhole, Cond.code yX0_isPartWhole cX0_isPartWhole 1 (some .boolean), Cond.methodLink RX2 122 yX0_isPartWhole, Cond.methodLink RL 42 yX2_undo, Cond.instanceMethod yX2_undo, Cond.selects RX2 yX2_undo yX2_undo, Cond.code yX2_undo cX2_undo 2 (some .int), Cond.methodLink RL 45 yX2_page]
def wsL_call_r10 : List Cond := [Cond.instanceMethod yX2_page, Cond.selects RX2 yX2_page yX2_page, Cond.code yX2_page cX2_page 3 (some .int), Cond.methodLink RX2 147 yX1_pageProperty, Cond.instanceMethod yX1_pageProperty, Cond.selects RX1 yX1_pageProperty yX1_pageProperty, Cond.code yX1_pageProperty cX1_pageProperty 3 (some .int), Cond.methodLink RX1 126 yX1_blockOf, Cond.methodLink RL 48 yX2_block, Cond.instanceMethod yX2_block, Cond.selects RX2 yX2_block yX2_block, Cond.code yX2_block cX2_block 3 (some .int), Cond.methodLink RX2 151 yX1_blockProperty, Cond.instanceMethod yX1_blockProperty, Cond.selects RX1 yX1_blockProperty yX1_blockProperty, Cond.code yX1_blockProperty cX1_blockProperty 3 (some .int), Cond.methodLink RX1 129 yX1_stateOf, Cond.methodLink RX1 132 yX1_closedAheadOf, Cond.instanceMethod yX1_closedAheadOf, Cond.selects RX1 yX1_closedAheadOf yX1_closedAheadOf, Cond.code yX1_closedAheadOf cX1_closedAheadOf 4 (some .int), Cond.methodLink RX1 135 yX1_unlikeHintsOf, Cond.instanceMethod yX1_unlikeHintsOf, Cond.selects RX1 yX1_unlikeHintsOf yX1_unlikeHintsOf]
def wsL_call_r11 : List Cond := [Cond.code yX1_unlikeHintsOf cX1_unlikeHintsOf 5 (some .int), Cond.methodLink RX1 138 yJ6_bitCount_0f7a4, Cond.static yJ6_bitCount_0f7a4, Cond.initialized RJ6, Cond.code yJ6_bitCount_0f7a4 cJ6_bitCount_0f7a4 1 (some .int), Cond.constant RJ6 265 (1431655765), Cond.constant RJ6 266 (858993459), Cond.constant RJ6 267 (252645135), Cond.methodLink RL 51 yX2_slot, Cond.instanceMethod yX2_slot, Cond.selects RX2 yX2_slot yX2_slot, Cond.code yX2_slot cX2_slot 5 (some .int), Cond.fieldLink RX2 159 "HintedPages$Store" "pageAt" "[I", Cond.methodLink RX2 156 yX1_validPageAt, Cond.methodLink RL 55 yX2_stream, Cond.instanceMethod yX2_stream, Cond.selects RX2 yX2_stream yX2_stream, Cond.code yX2_stream cX2_stream 3 (some .int), Cond.methodLink RX2 164 yX1_streamProperty, Cond.instanceMethod yX1_streamProperty, Cond.selects RX1 yX1_streamProperty yX1_streamProperty, Cond.code yX1_streamProperty cX1_streamProperty 3 (some .int), Cond.methodLink RX1 143 yX1_pagesWithHint, Cond.instanceMethod yX1_pagesWithHint]
def wsL_call_r12 : List Cond := [Cond.selects RX1 yX1_pagesWithHint yX1_pagesWithHint, Cond.code yX1_pagesWithHint cX1_pagesWithHint 4 (some .int), Cond.methodLink RX1 146 yX1_percentOf, Cond.instanceMethod yX1_percentOf, Cond.selects RX1 yX1_percentOf yX1_percentOf, Cond.code yX1_percentOf cX1_percentOf 3 (some .int), Cond.methodLink RL 58 yX2_count, Cond.instanceMethod yX2_count, Cond.selects RX2 yX2_count yX2_count, Cond.code yX2_count cX2_count 2 (some .int), Cond.methodLink RX2 167 yX1_total, Cond.instanceMethod yX1_total, Cond.selects RX1 yX1_total yX1_total, Cond.code yX1_total cX1_total 2 (some .int), Cond.methodLink RX1 149 yX1_sum, Cond.static yX1_sum, Cond.code yX1_sum cX1_sum 6 (some .int), Cond.methodLink RX1 153 yX1_openBlocks, Cond.instanceMethod yX1_openBlocks, Cond.selects RX1 yX1_openBlocks yX1_openBlocks, Cond.code yX1_openBlocks cX1_openBlocks 3 (some .int), Cond.methodLink RX1 156 yX1_writes, Cond.instanceMethod yX1_writes, Cond.selects RX1 yX1_writes yX1_writes]
def wsL_call_r13 : List Cond := [Cond.code yX1_writes cX1_writes 1 (some .int), Cond.methodLink RX1 159 yX1_erasures, Cond.instanceMethod yX1_erasures, Cond.selects RX1 yX1_erasures yX1_erasures, Cond.code yX1_erasures cX1_erasures 1 (some .int), Cond.methodLink RX1 162 yX1_spreadOfErasures, Cond.instanceMethod yX1_spreadOfErasures, Cond.selects RX1 yX1_spreadOfErasures yX1_spreadOfErasures, Cond.code yX1_spreadOfErasures cX1_spreadOfErasures 4 (some .int), Cond.methodLink RX1 165 Lib.Math.max.name, Cond.static Lib.Math.max.name, Cond.code Lib.Math.max.name Lib.Math.max.code 2 (some .int), Cond.methodLink RL 61 yX2_setting, Cond.instanceMethod yX2_setting, Cond.selects RX2 yX2_setting yX2_setting, Cond.code yX2_setting cX2_setting 2 (some .int), Cond.methodLink RL 64 yX2_ifWritten, Cond.instanceMethod yX2_ifWritten, Cond.selects RX2 yX2_ifWritten yX2_ifWritten, Cond.code yX2_ifWritten cX2_ifWritten 4 (some .int), Cond.methodLink RX2 170 yX2_tryWriting, Cond.instanceMethod yX2_tryWriting, Cond.selects RX2 yX2_tryWriting yX2_tryWriting, Cond.code yX2_tryWriting cX2_tryWriting 3 none]
def wsL_call_r14 : List Cond := [Cond.fieldLink RX2 16 "HintedPages" "trial" "LHintedPages$Store;", Cond.methodLink RX2 228 yX1_writePage, Cond.methodLink RX2 174 yX2_forecast, Cond.instanceMethod yX2_forecast, Cond.selects RX2 yX2_forecast yX2_forecast, Cond.code yX2_forecast cX2_forecast 3 (some .int), Cond.methodLink RX2 231 yX1_erasures, Cond.methodLink RL 67 yX2_ifRewritten, Cond.instanceMethod yX2_ifRewritten, Cond.selects RX2 yX2_ifRewritten yX2_ifRewritten, Cond.code yX2_ifRewritten cX2_ifRewritten 2 (some .int), Cond.methodLink RX2 179 yX2_copiesOfRewriting, Cond.instanceMethod yX2_copiesOfRewriting, Cond.selects RX2 yX2_copiesOfRewriting yX2_copiesOfRewriting, Cond.code yX2_copiesOfRewriting cX2_copiesOfRewriting 5 (some .int), Cond.methodLink RL 70 yX2_bestRule, Cond.instanceMethod yX2_bestRule, Cond.selects RX2 yX2_bestRule yX2_bestRule, Cond.code yX2_bestRule cX2_bestRule 6 (some .int)]
def wsL_call : List Cond := .code yL_call cL_call 5 (some .int) :: ((wsL_call_r1 ++ (wsL_call_r2 ++ (wsL_call_r3 ++ (wsL_call_r4 ++ (wsL_call_r5 ++ (wsL_call_r6 ++ (wsL_call_r7 ++ (wsL_call_r8 ++ (wsL_call_r9 ++ (wsL_call_r10 ++ (wsL_call_r11 ++ (wsL_call_r12 ++ (wsL_call_r13 ++ wsL_call_r14))))))))))))) ++ wsX20 ++ wsX10 ++ wsX00 ++ (vx_atS RX2 49 "java/lang/IndexOutOfBoundsException" ["java/lang/RuntimeException", "java/lang/Exception"]).filter goodWord ++ (vx_atS RX2 56 "java/lang/IllegalArgumentException" ["java/lang/RuntimeException", "java/lang/Exception"]).filter goodWord ++ (vx_atS RX2 82 "java/lang/IllegalStateException" ["java/lang/RuntimeException", "java/lang/Exception"]).filter goodWord)
def wsL_told_r1 : List Cond := [Cond.classLink RL 79 "java/lang/IndexOutOfBoundsException", Cond.classLink RL 81 "java/lang/IllegalArgumentException", Cond.classLink RL 83 "java/lang/IllegalStateException", Cond.methodLink RL 73 yL_call, Cond.static yL_call, Cond.initialized RL, Cond.code yL_call cL_call 5 (some .int), Cond.methodLink RL 9 yX2_write, Cond.instanceMethod yX2_write, Cond.selects RX2 yX2_write yX2_write, Cond.initialized RX2, Cond.code yX2_write cX2_write 3 (some .int), Cond.classLink RX2 45 "java/lang/IndexOutOfBoundsException", Cond.initialized "java/lang/IndexOutOfBoundsException", Cond.classLink RX2 52 "java/lang/IllegalArgumentException", Cond.initialized "java/lang/IllegalArgumentException", Cond.fieldLink RX2 10 "HintedPages" "store" "LHintedPages$Store;", Cond.methodLink RX2 41 yX2_isIn, Cond.static yX2_isIn, Cond.code yX2_isIn cX2_isIn 2 (some .boolean), Cond.methodLink RX2 57 yX2_saveState, Cond.instanceMethod yX2_saveState, Cond.selects RX2 yX2_saveState yX2_saveState, Cond.code yX2_saveState cX2_saveState 1 none]
def wsL_told_r2 : List Cond := [Cond.fieldLink RX2 23 "HintedPages" "savedStates" "I", Cond.fieldLink RX2 19 "HintedPages" "saved" "[LHintedPages$Store;", Cond.methodLink RX2 221 yX2_dropOldest, Cond.instanceMethod yX2_dropOldest, Cond.selects RX2 yX2_dropOldest yX2_dropOldest, Cond.code yX2_dropOldest cX2_dropOldest 3 none, Cond.methodLink RX2 224 yX1_becomeLike, Cond.instanceMethod yX1_becomeLike, Cond.selects RX1 yX1_becomeLike yX1_becomeLike, Cond.initialized RX1, Cond.code yX1_becomeLike cX1_becomeLike 2 none, Cond.fieldLink RX1 9 "HintedPages$Store" "placeOfPage" "[I", Cond.fieldLink RX1 15 "HintedPages$Store" "hintOfPage" "[I", Cond.fieldLink RX1 18 "HintedPages$Store" "writesOfPage" "[I", Cond.fieldLink RX1 21 "HintedPages$Store" "copiesOfPage" "[I", Cond.fieldLink RX1 24 "HintedPages$Store" "copiesSinceWrite" "[I", Cond.fieldLink RX1 27 "HintedPages$Store" "pageAt" "[I", Cond.fieldLink RX1 30 "HintedPages$Store" "streamOfBlock" "[I", Cond.fieldLink RX1 33 "HintedPages$Store" "programmedOfBlock" "[I", Cond.fieldLink RX1 36 "HintedPages$Store" "validOfBlock" "[I", Cond.fieldLink RX1 39 "HintedPages$Store" "erasuresOfBlock" "[I", Cond.fieldLink RX1 42 "HintedPages$Store" "closingOfBlock" "[I", Cond.fieldLink RX1 45 "HintedPages$Store" "openOfStream" "[I", Cond.fieldLink RX1 48 "HintedPages$Store" "programmedOfStream" "[I"]
def wsL_told_r3 : List Cond := [Cond.fieldLink RX1 51 "HintedPages$Store" "copiesOfStream" "[I", Cond.fieldLink RX1 54 "HintedPages$Store" "settings" "[I", Cond.fieldLink RX1 57 "HintedPages$Store" "freeBlocks" "I", Cond.fieldLink RX1 61 "HintedPages$Store" "closings" "I", Cond.methodLink RX1 70 yX1_copyRow, Cond.static yX1_copyRow, Cond.code yX1_copyRow cX1_copyRow 2 none, Cond.methodLink RX1 74 Lib.Math.min.name, Cond.static Lib.Math.min.name, Cond.initialized "java/lang/Math", Cond.code Lib.Math.min.name Lib.Math.min.code 2 (some .int), Cond.methodLink RX1 80 arraycopyName, Cond.native arraycopyName, Cond.static arraycopyName, Cond.initialized "java/lang/System", Cond.methodLink RX2 60 yX1_writePages, Cond.instanceMethod yX1_writePages, Cond.selects RX1 yX1_writePages yX1_writePages, Cond.code yX1_writePages cX1_writePages 6 (some .int), Cond.methodLink RX1 86 yX1_copies, Cond.instanceMethod yX1_copies, Cond.selects RX1 yX1_copies yX1_copies, Cond.code yX1_copies cX1_copies 1 (some .int), Cond.methodLink RX1 90 yX1_writePage]
def wsL_told_r4 : List Cond := [Cond.instanceMethod yX1_writePage, Cond.selects RX1 yX1_writePage yX1_writePage, Cond.code yX1_writePage cX1_writePage 3 none, Cond.methodLink RX1 94 yX1_collectVictims, Cond.instanceMethod yX1_collectVictims, Cond.selects RX1 yX1_collectVictims yX1_collectVictims, Cond.code yX1_collectVictims cX1_collectVictims 4 (some .int), Cond.constant RX1 105 (1000000), Cond.methodLink RX1 106 yX1_victim, Cond.instanceMethod yX1_victim, Cond.selects RX1 yX1_victim yX1_victim, Cond.code yX1_victim cX1_victim 5 (some .int), Cond.methodLink RX1 113 yX1_rankOf, Cond.instanceMethod yX1_rankOf, Cond.selects RX1 yX1_rankOf yX1_rankOf, Cond.code yX1_rankOf cX1_rankOf 2 (some .int), Cond.methodLink RX1 109 yX1_collectBlock, Cond.instanceMethod yX1_collectBlock, Cond.selects RX1 yX1_collectBlock yX1_collectBlock, Cond.code yX1_collectBlock cX1_collectBlock 4 none, Cond.methodLink RX1 116 yX1_validPageAt, Cond.instanceMethod yX1_validPageAt, Cond.selects RX1 yX1_validPageAt yX1_validPageAt, Cond.code yX1_validPageAt cX1_validPageAt 3 (some .int)]
def wsL_told_r5 : List Cond := [Cond.methodLink RX1 98 yX1_openBlock, Cond.instanceMethod yX1_openBlock, Cond.selects RX1 yX1_openBlock yX1_openBlock, Cond.code yX1_openBlock cX1_openBlock 4 (some .int), Cond.methodLink RX1 101 yX1_program, Cond.instanceMethod yX1_program, Cond.selects RX1 yX1_program yX1_program, Cond.code yX1_program cX1_program 6 none, Cond.methodLink RX1 119 yX1_erase, Cond.instanceMethod yX1_erase, Cond.selects RX1 yX1_erase yX1_erase, Cond.code yX1_erase cX1_erase 3 none, Cond.methodLink RL 15 yX2_writeRow, Cond.instanceMethod yX2_writeRow, Cond.selects RX2 yX2_writeRow yX2_writeRow, Cond.code yX2_writeRow cX2_writeRow 4 (some .int), Cond.methodLink RL 19 yX2_trim, Cond.instanceMethod yX2_trim, Cond.selects RX2 yX2_trim yX2_trim, Cond.code yX2_trim cX2_trim 3 (some .int), Cond.methodLink RX2 66 yX1_blockOf, Cond.instanceMethod yX1_blockOf, Cond.selects RX1 yX1_blockOf yX1_blockOf, Cond.code yX1_blockOf cX1_blockOf 2 (some .int)]
def wsL_told_r6 : List Cond := [Cond.methodLink RX1 122 yX1_isWritten, Cond.instanceMethod yX1_isWritten, Cond.selects RX1 yX1_isWritten yX1_isWritten, Cond.code yX1_isWritten cX1_isWritten 2 (some .boolean), Cond.methodLink RX2 70 yX1_forget, Cond.instanceMethod yX1_forget, Cond.selects RX1 yX1_forget yX1_forget, Cond.code yX1_forget cX1_forget 3 none, Cond.methodLink RL 23 yX2_hint, Cond.instanceMethod yX2_hint, Cond.selects RX2 yX2_hint yX2_hint, Cond.code yX2_hint cX2_hint 4 (some .int), Cond.classLink RX2 78 "java/lang/IllegalStateException", Cond.initialized "java/lang/IllegalStateException", Cond.fieldLink RX2 83 "HintedPages$Store" "hintOfPage" "[I", Cond.methodLink RX2 74 yX1_isWritten, Cond.methodLink RL 26 yX2_collect, Cond.instanceMethod yX2_collect, Cond.selects RX2 yX2_collect yX2_collect, Cond.code yX2_collect cX2_collect 3 (some .int), Cond.methodLink RX2 88 yX1_stateOf, Cond.instanceMethod yX1_stateOf, Cond.selects RX1 yX1_stateOf yX1_stateOf, Cond.code yX1_stateOf cX1_stateOf 2 (some .int)]
def wsL_told_r7 : List Cond := [Cond.methodLink RX2 93 yX1_copies, Cond.methodLink RX2 97 yX1_collectBlock, Cond.methodLink RL 29 yX2_tidy, Cond.instanceMethod yX2_tidy, Cond.selects RX2 yX2_tidy yX2_tidy, Cond.code yX2_tidy cX2_tidy 2 (some .int), Cond.methodLink RX2 102 yX1_collectVictims, Cond.methodLink RL 32 yX2_set, Cond.instanceMethod yX2_set, Cond.selects RX2 yX2_set yX2_set, Cond.code yX2_set cX2_set 4 (some .int), Cond.fieldLink RX2 112 "HintedPages$Store" "settings" "[I", Cond.methodLink RX2 107 yX2_isSettingValue, Cond.static yX2_isSettingValue, Cond.code yX2_isSettingValue cX2_isSettingValue 2 (some .boolean), Cond.methodLink RL 35 yX2_append, Cond.instanceMethod yX2_append, Cond.selects RX2 yX2_append yX2_append, Cond.code yX2_append cX2_append 2 (some .int), Cond.fieldLink RX2 31 "HintedPages" "length" "I", Cond.fieldLink RX2 27 "HintedPages" "codes" "[I", Cond.methodLink RL 38 yX2_writeAll, Cond.instanceMethod yX2_writeAll, Cond.selects RX2 yX2_writeAll yX2_writeAll]
def wsL_told_r8 : List Cond := [Cond.code yX2_writeAll cX2_writeAll 3 (some .int), Cond.fieldLink RX2 37 "HintedPages" "reader" "LHintedPages$Reader;", Cond.fieldLink RX2 134 "HintedPages$Reader" "first" "I", Cond.fieldLink RX2 137 "HintedPages$Reader" "last" "I", Cond.fieldLink RX2 140 "HintedPages$Reader" "hint" "I", Cond.methodLink RX2 119 yX2_readBuffer, Cond.instanceMethod yX2_readBuffer, Cond.selects RX2 yX2_readBuffer yX2_readBuffer, Cond.code yX2_readBuffer cX2_readBuffer 2 (some .int), Cond.methodLink RX2 128 yX0_restart, Cond.instanceMethod yX0_restart, Cond.selects RX0 yX0_restart yX0_restart, Cond.initialized RX0, Cond.code yX0_restart cX0_restart 1 none, Cond.fieldLink RX0 11 "HintedPages$Reader" "behind" "I", Cond.methodLink RX2 131 yX0_accepts, Cond.instanceMethod yX0_accepts, Cond.selects RX0 yX0_accepts yX0_accepts, Cond.code yX0_accepts cX0_accepts 2 (some .boolean), Cond.fieldLink RX0 15 "HintedPages$Reader" "first" "I", Cond.methodLink RX0 24 yX0_acceptsDigit, Cond.instanceMethod yX0_acceptsDigit, Cond.selects RX0 yX0_acceptsDigit yX0_acceptsDigit, Cond.code yX0_acceptsDigit cX0_acceptsDigit 2 (some .boolean)]
def wsL_told_r9 : List Cond := [Cond.fieldLink RX0 18 "HintedPages$Reader" "last" "I", Cond.fieldLink RX0 21 "HintedPages$Reader" "hint" "I", Cond.methodLink RX0 28 yX0_goesOn, Cond.instanceMethod yX0_goesOn, Cond.selects RX0 yX0_goesOn yX0_goesOn, Cond.code yX0_goesOn cX0_goesOn 3 (some .boolean), Cond.methodLink RX0 36 yX0_acceptsFirst, Cond.instanceMethod yX0_acceptsFirst, Cond.selects RX0 yX0_acceptsFirst yX0_acceptsFirst, Cond.code yX0_acceptsFirst cX0_acceptsFirst 2 (some .boolean), Cond.methodLink RX0 39 yX0_mayGrow, Cond.static yX0_mayGrow, Cond.code yX0_mayGrow cX0_mayGrow 1 (some .boolean), Cond.methodLink RX0 42 yX0_acceptsLast, Cond.instanceMethod yX0_acceptsLast, Cond.selects RX0 yX0_acceptsLast yX0_acceptsLast, Cond.code yX0_acceptsLast cX0_acceptsLast 3 (some .boolean), Cond.methodLink RX0 46 yX0_acceptsHint, Cond.instanceMethod yX0_acceptsHint, Cond.selects RX0 yX0_acceptsHint yX0_acceptsHint, Cond.code yX0_acceptsHint cX0_acceptsHint 2 (some .boolean), Cond.methodLink RX0 32 yX0_isPartWhole, Cond.instanceMethod yX0_isPartWhole, Cond.selects RX0 yX0_isPartWhole yX0_isPartWhole]
def wsL_told_r10 : List Cond := [Cond.code yX0_isPartWhole cX0_isPartWhole 1 (some .boolean), Cond.methodLink RX2 122 yX0_isPartWhole, Cond.methodLink RL 42 yX2_undo, Cond.instanceMethod yX2_undo, Cond.selects RX2 yX2_undo yX2_undo, Cond.code yX2_undo cX2_undo 2 (some .int), Cond.methodLink RL 45 yX2_page, Cond.instanceMethod yX2_page, Cond.selects RX2 yX2_page yX2_page, Cond.code yX2_page cX2_page 3 (some .int), Cond.methodLink RX2 147 yX1_pageProperty, Cond.instanceMethod yX1_pageProperty, Cond.selects RX1 yX1_pageProperty yX1_pageProperty, Cond.code yX1_pageProperty cX1_pageProperty 3 (some .int), Cond.methodLink RX1 126 yX1_blockOf, Cond.methodLink RL 48 yX2_block, Cond.instanceMethod yX2_block, Cond.selects RX2 yX2_block yX2_block, Cond.code yX2_block cX2_block 3 (some .int), Cond.methodLink RX2 151 yX1_blockProperty, Cond.instanceMethod yX1_blockProperty, Cond.selects RX1 yX1_blockProperty yX1_blockProperty, Cond.code yX1_blockProperty cX1_blockProperty 3 (some .int), Cond.methodLink RX1 129 yX1_stateOf]
def wsL_told_r11 : List Cond := [Cond.methodLink RX1 132 yX1_closedAheadOf, Cond.instanceMethod yX1_closedAheadOf, Cond.selects RX1 yX1_closedAheadOf yX1_closedAheadOf, Cond.code yX1_closedAheadOf cX1_closedAheadOf 4 (some .int), Cond.methodLink RX1 135 yX1_unlikeHintsOf, Cond.instanceMethod yX1_unlikeHintsOf, Cond.selects RX1 yX1_unlikeHintsOf yX1_unlikeHintsOf, Cond.code yX1_unlikeHintsOf cX1_unlikeHintsOf 5 (some .int), Cond.methodLink RX1 138 yJ6_bitCount_0f7a4, Cond.static yJ6_bitCount_0f7a4, Cond.initialized RJ6, Cond.code yJ6_bitCount_0f7a4 cJ6_bitCount_0f7a4 1 (some .int), Cond.constant RJ6 265 (1431655765), Cond.constant RJ6 266 (858993459), Cond.constant RJ6 267 (252645135), Cond.methodLink RL 51 yX2_slot, Cond.instanceMethod yX2_slot, Cond.selects RX2 yX2_slot yX2_slot, Cond.code yX2_slot cX2_slot 5 (some .int), Cond.fieldLink RX2 159 "HintedPages$Store" "pageAt" "[I", Cond.methodLink RX2 156 yX1_validPageAt, Cond.methodLink RL 55 yX2_stream, Cond.instanceMethod yX2_stream, Cond.selects RX2 yX2_stream yX2_stream]
def wsL_told_r12 : List Cond := [Cond.code yX2_stream cX2_stream 3 (some .int), Cond.methodLink RX2 164 yX1_streamProperty, Cond.instanceMethod yX1_streamProperty, Cond.selects RX1 yX1_streamProperty yX1_streamProperty, Cond.code yX1_streamProperty cX1_streamProperty 3 (some .int), Cond.methodLink RX1 143 yX1_pagesWithHint, Cond.instanceMethod yX1_pagesWithHint, Cond.selects RX1 yX1_pagesWithHint yX1_pagesWithHint, Cond.code yX1_pagesWithHint cX1_pagesWithHint 4 (some .int), Cond.methodLink RX1 146 yX1_percentOf, Cond.instanceMethod yX1_percentOf, Cond.selects RX1 yX1_percentOf yX1_percentOf, Cond.code yX1_percentOf cX1_percentOf 3 (some .int), Cond.methodLink RL 58 yX2_count, Cond.instanceMethod yX2_count, Cond.selects RX2 yX2_count yX2_count, Cond.code yX2_count cX2_count 2 (some .int), Cond.methodLink RX2 167 yX1_total, Cond.instanceMethod yX1_total, Cond.selects RX1 yX1_total yX1_total, Cond.code yX1_total cX1_total 2 (some .int), Cond.methodLink RX1 149 yX1_sum, Cond.static yX1_sum, Cond.code yX1_sum cX1_sum 6 (some .int)]
def wsL_told_r13 : List Cond := [Cond.methodLink RX1 153 yX1_openBlocks, Cond.instanceMethod yX1_openBlocks, Cond.selects RX1 yX1_openBlocks yX1_openBlocks, Cond.code yX1_openBlocks cX1_openBlocks 3 (some .int), Cond.methodLink RX1 156 yX1_writes, Cond.instanceMethod yX1_writes, Cond.selects RX1 yX1_writes yX1_writes, Cond.code yX1_writes cX1_writes 1 (some .int), Cond.methodLink RX1 159 yX1_erasures, Cond.instanceMethod yX1_erasures, Cond.selects RX1 yX1_erasures yX1_erasures, Cond.code yX1_erasures cX1_erasures 1 (some .int), Cond.methodLink RX1 162 yX1_spreadOfErasures, Cond.instanceMethod yX1_spreadOfErasures, Cond.selects RX1 yX1_spreadOfErasures yX1_spreadOfErasures, Cond.code yX1_spreadOfErasures cX1_spreadOfErasures 4 (some .int), Cond.methodLink RX1 165 Lib.Math.max.name, Cond.static Lib.Math.max.name, Cond.code Lib.Math.max.name Lib.Math.max.code 2 (some .int), Cond.methodLink RL 61 yX2_setting, Cond.instanceMethod yX2_setting, Cond.selects RX2 yX2_setting yX2_setting, Cond.code yX2_setting cX2_setting 2 (some .int), Cond.methodLink RL 64 yX2_ifWritten]
def wsL_told_r14 : List Cond := [Cond.instanceMethod yX2_ifWritten, Cond.selects RX2 yX2_ifWritten yX2_ifWritten, Cond.code yX2_ifWritten cX2_ifWritten 4 (some .int), Cond.methodLink RX2 170 yX2_tryWriting, Cond.instanceMethod yX2_tryWriting, Cond.selects RX2 yX2_tryWriting yX2_tryWriting, Cond.code yX2_tryWriting cX2_tryWriting 3 none, Cond.fieldLink RX2 16 "HintedPages" "trial" "LHintedPages$Store;", Cond.methodLink RX2 228 yX1_writePage, Cond.methodLink RX2 174 yX2_forecast, Cond.instanceMethod yX2_forecast, Cond.selects RX2 yX2_forecast yX2_forecast, Cond.code yX2_forecast cX2_forecast 3 (some .int), Cond.methodLink RX2 231 yX1_erasures, Cond.methodLink RL 67 yX2_ifRewritten, Cond.instanceMethod yX2_ifRewritten, Cond.selects RX2 yX2_ifRewritten yX2_ifRewritten, Cond.code yX2_ifRewritten cX2_ifRewritten 2 (some .int), Cond.methodLink RX2 179 yX2_copiesOfRewriting, Cond.instanceMethod yX2_copiesOfRewriting, Cond.selects RX2 yX2_copiesOfRewriting yX2_copiesOfRewriting, Cond.code yX2_copiesOfRewriting cX2_copiesOfRewriting 5 (some .int), Cond.methodLink RL 70 yX2_bestRule, Cond.instanceMethod yX2_bestRule]
def wsL_told_r15 : List Cond := [Cond.selects RX2 yX2_bestRule yX2_bestRule, Cond.code yX2_bestRule cX2_bestRule 6 (some .int)]
def wsL_told : List Cond := .codeWith yL_told cL_told 6 (some .int) [(0, 9, 10, 79), (0, 9, 15, 81), (0, 9, 20, 83)] :: ((wsL_told_r1 ++ (wsL_told_r2 ++ (wsL_told_r3 ++ (wsL_told_r4 ++ (wsL_told_r5 ++ (wsL_told_r6 ++ (wsL_told_r7 ++ (wsL_told_r8 ++ (wsL_told_r9 ++ (wsL_told_r10 ++ (wsL_told_r11 ++ (wsL_told_r12 ++ (wsL_told_r13 ++ (wsL_told_r14 ++ wsL_told_r15)))))))))))))) ++ wsX20 ++ wsX10 ++ wsX00 ++ (vx_atS RX2 49 "java/lang/IndexOutOfBoundsException" ["java/lang/RuntimeException", "java/lang/Exception"]).filter goodWord ++ (vx_atS RX2 56 "java/lang/IllegalArgumentException" ["java/lang/RuntimeException", "java/lang/Exception"]).filter goodWord ++ (vx_atS RX2 82 "java/lang/IllegalStateException" ["java/lang/RuntimeException", "java/lang/Exception"]).filter goodWord)
def wsL_seen_r1 : List Cond := [Cond.constantLong RL 85 (7), Cond.constantLong RL 87 (31), Cond.methodLink RL 58 yX2_count, Cond.instanceMethod yX2_count, Cond.selects RX2 yX2_count yX2_count, Cond.initialized RX2, Cond.code yX2_count cX2_count 2 (some .int), Cond.classLink RX2 52 "java/lang/IllegalArgumentException", Cond.initialized "java/lang/IllegalArgumentException", Cond.fieldLink RX2 23 "HintedPages" "savedStates" "I", Cond.fieldLink RX2 10 "HintedPages" "store" "LHintedPages$Store;", Cond.methodLink RX2 41 yX2_isIn, Cond.static yX2_isIn, Cond.code yX2_isIn cX2_isIn 2 (some .boolean), Cond.methodLink RX2 167 yX1_total, Cond.instanceMethod yX1_total, Cond.selects RX1 yX1_total yX1_total, Cond.initialized RX1, Cond.code yX1_total cX1_total 2 (some .int), Cond.fieldLink RX1 36 "HintedPages$Store" "validOfBlock" "[I", Cond.fieldLink RX1 57 "HintedPages$Store" "freeBlocks" "I", Cond.fieldLink RX1 33 "HintedPages$Store" "programmedOfBlock" "[I", Cond.methodLink RX1 149 yX1_sum, Cond.static yX1_sum]
def wsL_seen_r2 : List Cond := [Cond.code yX1_sum cX1_sum 6 (some .int), Cond.methodLink RX1 153 yX1_openBlocks, Cond.instanceMethod yX1_openBlocks, Cond.selects RX1 yX1_openBlocks yX1_openBlocks, Cond.code yX1_openBlocks cX1_openBlocks 3 (some .int), Cond.fieldLink RX1 45 "HintedPages$Store" "openOfStream" "[I", Cond.methodLink RX1 156 yX1_writes, Cond.instanceMethod yX1_writes, Cond.selects RX1 yX1_writes yX1_writes, Cond.code yX1_writes cX1_writes 1 (some .int), Cond.fieldLink RX1 18 "HintedPages$Store" "writesOfPage" "[I", Cond.methodLink RX1 86 yX1_copies, Cond.instanceMethod yX1_copies, Cond.selects RX1 yX1_copies yX1_copies, Cond.code yX1_copies cX1_copies 1 (some .int), Cond.fieldLink RX1 48 "HintedPages$Store" "programmedOfStream" "[I", Cond.methodLink RX1 159 yX1_erasures, Cond.instanceMethod yX1_erasures, Cond.selects RX1 yX1_erasures yX1_erasures, Cond.code yX1_erasures cX1_erasures 1 (some .int), Cond.fieldLink RX1 39 "HintedPages$Store" "erasuresOfBlock" "[I", Cond.methodLink RX1 162 yX1_spreadOfErasures, Cond.instanceMethod yX1_spreadOfErasures, Cond.selects RX1 yX1_spreadOfErasures yX1_spreadOfErasures]
def wsL_seen_r3 : List Cond := [Cond.code yX1_spreadOfErasures cX1_spreadOfErasures 4 (some .int), Cond.methodLink RX1 165 Lib.Math.max.name, Cond.static Lib.Math.max.name, Cond.initialized "java/lang/Math", Cond.code Lib.Math.max.name Lib.Math.max.code 2 (some .int), Cond.methodLink RX1 74 Lib.Math.min.name, Cond.static Lib.Math.min.name, Cond.code Lib.Math.min.name Lib.Math.min.code 2 (some .int), Cond.methodLink RX1 106 yX1_victim, Cond.instanceMethod yX1_victim, Cond.selects RX1 yX1_victim yX1_victim, Cond.code yX1_victim cX1_victim 5 (some .int), Cond.methodLink RX1 113 yX1_rankOf, Cond.instanceMethod yX1_rankOf, Cond.selects RX1 yX1_rankOf yX1_rankOf, Cond.code yX1_rankOf cX1_rankOf 2 (some .int), Cond.fieldLink RX1 54 "HintedPages$Store" "settings" "[I", Cond.fieldLink RX1 42 "HintedPages$Store" "closingOfBlock" "[I", Cond.methodLink RL 45 yX2_page, Cond.instanceMethod yX2_page, Cond.selects RX2 yX2_page yX2_page, Cond.code yX2_page cX2_page 3 (some .int), Cond.classLink RX2 45 "java/lang/IndexOutOfBoundsException", Cond.initialized "java/lang/IndexOutOfBoundsException"]
def wsL_seen_r4 : List Cond := [Cond.methodLink RX2 147 yX1_pageProperty, Cond.instanceMethod yX1_pageProperty, Cond.selects RX1 yX1_pageProperty yX1_pageProperty, Cond.code yX1_pageProperty cX1_pageProperty 3 (some .int), Cond.fieldLink RX1 9 "HintedPages$Store" "placeOfPage" "[I", Cond.fieldLink RX1 15 "HintedPages$Store" "hintOfPage" "[I", Cond.fieldLink RX1 21 "HintedPages$Store" "copiesOfPage" "[I", Cond.fieldLink RX1 24 "HintedPages$Store" "copiesSinceWrite" "[I", Cond.methodLink RX1 126 yX1_blockOf, Cond.instanceMethod yX1_blockOf, Cond.selects RX1 yX1_blockOf yX1_blockOf, Cond.code yX1_blockOf cX1_blockOf 2 (some .int), Cond.methodLink RX1 122 yX1_isWritten, Cond.instanceMethod yX1_isWritten, Cond.selects RX1 yX1_isWritten yX1_isWritten, Cond.code yX1_isWritten cX1_isWritten 2 (some .boolean), Cond.methodLink RL 48 yX2_block, Cond.instanceMethod yX2_block, Cond.selects RX2 yX2_block yX2_block, Cond.code yX2_block cX2_block 3 (some .int), Cond.methodLink RX2 151 yX1_blockProperty, Cond.instanceMethod yX1_blockProperty, Cond.selects RX1 yX1_blockProperty yX1_blockProperty, Cond.code yX1_blockProperty cX1_blockProperty 3 (some .int)]
def wsL_seen_r5 : List Cond := [Cond.fieldLink RX1 30 "HintedPages$Store" "streamOfBlock" "[I", Cond.methodLink RX1 129 yX1_stateOf, Cond.instanceMethod yX1_stateOf, Cond.selects RX1 yX1_stateOf yX1_stateOf, Cond.code yX1_stateOf cX1_stateOf 2 (some .int), Cond.methodLink RX1 132 yX1_closedAheadOf, Cond.instanceMethod yX1_closedAheadOf, Cond.selects RX1 yX1_closedAheadOf yX1_closedAheadOf, Cond.code yX1_closedAheadOf cX1_closedAheadOf 4 (some .int), Cond.methodLink RX1 135 yX1_unlikeHintsOf, Cond.instanceMethod yX1_unlikeHintsOf, Cond.selects RX1 yX1_unlikeHintsOf yX1_unlikeHintsOf, Cond.code yX1_unlikeHintsOf cX1_unlikeHintsOf 5 (some .int), Cond.methodLink RX1 116 yX1_validPageAt, Cond.instanceMethod yX1_validPageAt, Cond.selects RX1 yX1_validPageAt yX1_validPageAt, Cond.code yX1_validPageAt cX1_validPageAt 3 (some .int), Cond.fieldLink RX1 27 "HintedPages$Store" "pageAt" "[I", Cond.methodLink RX1 138 yJ6_bitCount_0f7a4, Cond.static yJ6_bitCount_0f7a4, Cond.initialized RJ6, Cond.code yJ6_bitCount_0f7a4 cJ6_bitCount_0f7a4 1 (some .int), Cond.constant RJ6 265 (1431655765), Cond.constant RJ6 266 (858993459)]
def wsL_seen_r6 : List Cond := [Cond.constant RJ6 267 (252645135), Cond.methodLink RL 51 yX2_slot, Cond.instanceMethod yX2_slot, Cond.selects RX2 yX2_slot yX2_slot, Cond.code yX2_slot cX2_slot 5 (some .int), Cond.fieldLink RX2 159 "HintedPages$Store" "pageAt" "[I", Cond.methodLink RX2 156 yX1_validPageAt, Cond.methodLink RL 55 yX2_stream, Cond.instanceMethod yX2_stream, Cond.selects RX2 yX2_stream yX2_stream, Cond.code yX2_stream cX2_stream 3 (some .int), Cond.methodLink RX2 164 yX1_streamProperty, Cond.instanceMethod yX1_streamProperty, Cond.selects RX1 yX1_streamProperty yX1_streamProperty, Cond.code yX1_streamProperty cX1_streamProperty 3 (some .int), Cond.fieldLink RX1 51 "HintedPages$Store" "copiesOfStream" "[I", Cond.methodLink RX1 143 yX1_pagesWithHint, Cond.instanceMethod yX1_pagesWithHint, Cond.selects RX1 yX1_pagesWithHint yX1_pagesWithHint, Cond.code yX1_pagesWithHint cX1_pagesWithHint 4 (some .int), Cond.methodLink RX1 146 yX1_percentOf, Cond.instanceMethod yX1_percentOf, Cond.selects RX1 yX1_percentOf yX1_percentOf, Cond.code yX1_percentOf cX1_percentOf 3 (some .int)]
def wsL_seen_r7 : List Cond := [Cond.methodLink RL 61 yX2_setting, Cond.instanceMethod yX2_setting, Cond.selects RX2 yX2_setting yX2_setting, Cond.code yX2_setting cX2_setting 2 (some .int), Cond.fieldLink RX2 112 "HintedPages$Store" "settings" "[I"]
def wsL_seen : List Cond := .code yL_seen cL_seen 4 (some .long) :: ((wsL_seen_r1 ++ (wsL_seen_r2 ++ (wsL_seen_r3 ++ (wsL_seen_r4 ++ (wsL_seen_r5 ++ (wsL_seen_r6 ++ wsL_seen_r7)))))) ++ wsX20 ++ wsX10 ++ (vx_atS RX2 56 "java/lang/IllegalArgumentException" ["java/lang/RuntimeException", "java/lang/Exception"]).filter goodWord ++ (vx_atS RX2 49 "java/lang/IndexOutOfBoundsException" ["java/lang/RuntimeException", "java/lang/Exception"]).filter goodWord)
def wsL_refusesAny_r1 : List Cond := [Cond.methodLink RL 89 yL_told, Cond.static yL_told, Cond.initialized RL, Cond.codeWith yL_told cL_told 6 (some .int) [(0, 9, 10, 79), (0, 9, 15, 81), (0, 9, 20, 83)], Cond.classLink RL 79 "java/lang/IndexOutOfBoundsException", Cond.classLink RL 81 "java/lang/IllegalArgumentException", Cond.classLink RL 83 "java/lang/IllegalStateException", Cond.methodLink RL 73 yL_call, Cond.static yL_call, Cond.code yL_call cL_call 5 (some .int), Cond.methodLink RL 9 yX2_write, Cond.instanceMethod yX2_write, Cond.selects RX2 yX2_write yX2_write, Cond.initialized RX2, Cond.code yX2_write cX2_write 3 (some .int), Cond.classLink RX2 45 "java/lang/IndexOutOfBoundsException", Cond.initialized "java/lang/IndexOutOfBoundsException", Cond.classLink RX2 52 "java/lang/IllegalArgumentException", Cond.initialized "java/lang/IllegalArgumentException", Cond.fieldLink RX2 10 "HintedPages" "store" "LHintedPages$Store;", Cond.methodLink RX2 41 yX2_isIn, Cond.static yX2_isIn, Cond.code yX2_isIn cX2_isIn 2 (some .boolean), Cond.methodLink RX2 57 yX2_saveState]
def wsL_refusesAny_r2 : List Cond := [Cond.instanceMethod yX2_saveState, Cond.selects RX2 yX2_saveState yX2_saveState, Cond.code yX2_saveState cX2_saveState 1 none, Cond.fieldLink RX2 23 "HintedPages" "savedStates" "I", Cond.fieldLink RX2 19 "HintedPages" "saved" "[LHintedPages$Store;", Cond.methodLink RX2 221 yX2_dropOldest, Cond.instanceMethod yX2_dropOldest, Cond.selects RX2 yX2_dropOldest yX2_dropOldest, Cond.code yX2_dropOldest cX2_dropOldest 3 none, Cond.methodLink RX2 224 yX1_becomeLike, Cond.instanceMethod yX1_becomeLike, Cond.selects RX1 yX1_becomeLike yX1_becomeLike, Cond.initialized RX1, Cond.code yX1_becomeLike cX1_becomeLike 2 none, Cond.fieldLink RX1 9 "HintedPages$Store" "placeOfPage" "[I", Cond.fieldLink RX1 15 "HintedPages$Store" "hintOfPage" "[I", Cond.fieldLink RX1 18 "HintedPages$Store" "writesOfPage" "[I", Cond.fieldLink RX1 21 "HintedPages$Store" "copiesOfPage" "[I", Cond.fieldLink RX1 24 "HintedPages$Store" "copiesSinceWrite" "[I", Cond.fieldLink RX1 27 "HintedPages$Store" "pageAt" "[I", Cond.fieldLink RX1 30 "HintedPages$Store" "streamOfBlock" "[I", Cond.fieldLink RX1 33 "HintedPages$Store" "programmedOfBlock" "[I", Cond.fieldLink RX1 36 "HintedPages$Store" "validOfBlock" "[I", Cond.fieldLink RX1 39 "HintedPages$Store" "erasuresOfBlock" "[I"]
def wsL_refusesAny_r3 : List Cond := [Cond.fieldLink RX1 42 "HintedPages$Store" "closingOfBlock" "[I", Cond.fieldLink RX1 45 "HintedPages$Store" "openOfStream" "[I", Cond.fieldLink RX1 48 "HintedPages$Store" "programmedOfStream" "[I", Cond.fieldLink RX1 51 "HintedPages$Store" "copiesOfStream" "[I", Cond.fieldLink RX1 54 "HintedPages$Store" "settings" "[I", Cond.fieldLink RX1 57 "HintedPages$Store" "freeBlocks" "I", Cond.fieldLink RX1 61 "HintedPages$Store" "closings" "I", Cond.methodLink RX1 70 yX1_copyRow, Cond.static yX1_copyRow, Cond.code yX1_copyRow cX1_copyRow 2 none, Cond.methodLink RX1 74 Lib.Math.min.name, Cond.static Lib.Math.min.name, Cond.initialized "java/lang/Math", Cond.code Lib.Math.min.name Lib.Math.min.code 2 (some .int), Cond.methodLink RX1 80 arraycopyName, Cond.native arraycopyName, Cond.static arraycopyName, Cond.initialized "java/lang/System", Cond.methodLink RX2 60 yX1_writePages, Cond.instanceMethod yX1_writePages, Cond.selects RX1 yX1_writePages yX1_writePages, Cond.code yX1_writePages cX1_writePages 6 (some .int), Cond.methodLink RX1 86 yX1_copies, Cond.instanceMethod yX1_copies]
def wsL_refusesAny_r4 : List Cond := [Cond.selects RX1 yX1_copies yX1_copies, Cond.code yX1_copies cX1_copies 1 (some .int), Cond.methodLink RX1 90 yX1_writePage, Cond.instanceMethod yX1_writePage, Cond.selects RX1 yX1_writePage yX1_writePage, Cond.code yX1_writePage cX1_writePage 3 none, Cond.methodLink RX1 94 yX1_collectVictims, Cond.instanceMethod yX1_collectVictims, Cond.selects RX1 yX1_collectVictims yX1_collectVictims, Cond.code yX1_collectVictims cX1_collectVictims 4 (some .int), Cond.constant RX1 105 (1000000), Cond.methodLink RX1 106 yX1_victim, Cond.instanceMethod yX1_victim, Cond.selects RX1 yX1_victim yX1_victim, Cond.code yX1_victim cX1_victim 5 (some .int), Cond.methodLink RX1 113 yX1_rankOf, Cond.instanceMethod yX1_rankOf, Cond.selects RX1 yX1_rankOf yX1_rankOf, Cond.code yX1_rankOf cX1_rankOf 2 (some .int), Cond.methodLink RX1 109 yX1_collectBlock, Cond.instanceMethod yX1_collectBlock, Cond.selects RX1 yX1_collectBlock yX1_collectBlock, Cond.code yX1_collectBlock cX1_collectBlock 4 none, Cond.methodLink RX1 116 yX1_validPageAt]
def wsL_refusesAny_r5 : List Cond := [Cond.instanceMethod yX1_validPageAt, Cond.selects RX1 yX1_validPageAt yX1_validPageAt, Cond.code yX1_validPageAt cX1_validPageAt 3 (some .int), Cond.methodLink RX1 98 yX1_openBlock, Cond.instanceMethod yX1_openBlock, Cond.selects RX1 yX1_openBlock yX1_openBlock, Cond.code yX1_openBlock cX1_openBlock 4 (some .int), Cond.methodLink RX1 101 yX1_program, Cond.instanceMethod yX1_program, Cond.selects RX1 yX1_program yX1_program, Cond.code yX1_program cX1_program 6 none, Cond.methodLink RX1 119 yX1_erase, Cond.instanceMethod yX1_erase, Cond.selects RX1 yX1_erase yX1_erase, Cond.code yX1_erase cX1_erase 3 none, Cond.methodLink RL 15 yX2_writeRow, Cond.instanceMethod yX2_writeRow, Cond.selects RX2 yX2_writeRow yX2_writeRow, Cond.code yX2_writeRow cX2_writeRow 4 (some .int), Cond.methodLink RL 19 yX2_trim, Cond.instanceMethod yX2_trim, Cond.selects RX2 yX2_trim yX2_trim, Cond.code yX2_trim cX2_trim 3 (some .int), Cond.methodLink RX2 66 yX1_blockOf]
def wsL_refusesAny_r6 : List Cond := [Cond.instanceMethod yX1_blockOf, Cond.selects RX1 yX1_blockOf yX1_blockOf, Cond.code yX1_blockOf cX1_blockOf 2 (some .int), Cond.methodLink RX1 122 yX1_isWritten, Cond.instanceMethod yX1_isWritten, Cond.selects RX1 yX1_isWritten yX1_isWritten, Cond.code yX1_isWritten cX1_isWritten 2 (some .boolean), Cond.methodLink RX2 70 yX1_forget, Cond.instanceMethod yX1_forget, Cond.selects RX1 yX1_forget yX1_forget, Cond.code yX1_forget cX1_forget 3 none, Cond.methodLink RL 23 yX2_hint, Cond.instanceMethod yX2_hint, Cond.selects RX2 yX2_hint yX2_hint, Cond.code yX2_hint cX2_hint 4 (some .int), Cond.classLink RX2 78 "java/lang/IllegalStateException", Cond.initialized "java/lang/IllegalStateException", Cond.fieldLink RX2 83 "HintedPages$Store" "hintOfPage" "[I", Cond.methodLink RX2 74 yX1_isWritten, Cond.methodLink RL 26 yX2_collect, Cond.instanceMethod yX2_collect, Cond.selects RX2 yX2_collect yX2_collect, Cond.code yX2_collect cX2_collect 3 (some .int), Cond.methodLink RX2 88 yX1_stateOf]
def wsL_refusesAny_r7 : List Cond := [Cond.instanceMethod yX1_stateOf, Cond.selects RX1 yX1_stateOf yX1_stateOf, Cond.code yX1_stateOf cX1_stateOf 2 (some .int), Cond.methodLink RX2 93 yX1_copies, Cond.methodLink RX2 97 yX1_collectBlock, Cond.methodLink RL 29 yX2_tidy, Cond.instanceMethod yX2_tidy, Cond.selects RX2 yX2_tidy yX2_tidy, Cond.code yX2_tidy cX2_tidy 2 (some .int), Cond.methodLink RX2 102 yX1_collectVictims, Cond.methodLink RL 32 yX2_set, Cond.instanceMethod yX2_set, Cond.selects RX2 yX2_set yX2_set, Cond.code yX2_set cX2_set 4 (some .int), Cond.fieldLink RX2 112 "HintedPages$Store" "settings" "[I", Cond.methodLink RX2 107 yX2_isSettingValue, Cond.static yX2_isSettingValue, Cond.code yX2_isSettingValue cX2_isSettingValue 2 (some .boolean), Cond.methodLink RL 35 yX2_append, Cond.instanceMethod yX2_append, Cond.selects RX2 yX2_append yX2_append, Cond.code yX2_append cX2_append 2 (some .int), Cond.fieldLink RX2 31 "HintedPages" "length" "I", Cond.fieldLink RX2 27 "HintedPages" "codes" "[I"]
def wsL_refusesAny_r8 : List Cond := [Cond.methodLink RL 38 yX2_writeAll, Cond.instanceMethod yX2_writeAll, Cond.selects RX2 yX2_writeAll yX2_writeAll, Cond.code yX2_writeAll cX2_writeAll 3 (some .int), Cond.fieldLink RX2 37 "HintedPages" "reader" "LHintedPages$Reader;", Cond.fieldLink RX2 134 "HintedPages$Reader" "first" "I", Cond.fieldLink RX2 137 "HintedPages$Reader" "last" "I", Cond.fieldLink RX2 140 "HintedPages$Reader" "hint" "I", Cond.methodLink RX2 119 yX2_readBuffer, Cond.instanceMethod yX2_readBuffer, Cond.selects RX2 yX2_readBuffer yX2_readBuffer, Cond.code yX2_readBuffer cX2_readBuffer 2 (some .int), Cond.methodLink RX2 128 yX0_restart, Cond.instanceMethod yX0_restart, Cond.selects RX0 yX0_restart yX0_restart, Cond.initialized RX0, Cond.code yX0_restart cX0_restart 1 none, Cond.fieldLink RX0 11 "HintedPages$Reader" "behind" "I", Cond.methodLink RX2 131 yX0_accepts, Cond.instanceMethod yX0_accepts, Cond.selects RX0 yX0_accepts yX0_accepts, Cond.code yX0_accepts cX0_accepts 2 (some .boolean), Cond.fieldLink RX0 15 "HintedPages$Reader" "first" "I", Cond.methodLink RX0 24 yX0_acceptsDigit]
def wsL_refusesAny_r9 : List Cond := [Cond.instanceMethod yX0_acceptsDigit, Cond.selects RX0 yX0_acceptsDigit yX0_acceptsDigit, Cond.code yX0_acceptsDigit cX0_acceptsDigit 2 (some .boolean), Cond.fieldLink RX0 18 "HintedPages$Reader" "last" "I", Cond.fieldLink RX0 21 "HintedPages$Reader" "hint" "I", Cond.methodLink RX0 28 yX0_goesOn, Cond.instanceMethod yX0_goesOn, Cond.selects RX0 yX0_goesOn yX0_goesOn, Cond.code yX0_goesOn cX0_goesOn 3 (some .boolean), Cond.methodLink RX0 36 yX0_acceptsFirst, Cond.instanceMethod yX0_acceptsFirst, Cond.selects RX0 yX0_acceptsFirst yX0_acceptsFirst, Cond.code yX0_acceptsFirst cX0_acceptsFirst 2 (some .boolean), Cond.methodLink RX0 39 yX0_mayGrow, Cond.static yX0_mayGrow, Cond.code yX0_mayGrow cX0_mayGrow 1 (some .boolean), Cond.methodLink RX0 42 yX0_acceptsLast, Cond.instanceMethod yX0_acceptsLast, Cond.selects RX0 yX0_acceptsLast yX0_acceptsLast, Cond.code yX0_acceptsLast cX0_acceptsLast 3 (some .boolean), Cond.methodLink RX0 46 yX0_acceptsHint, Cond.instanceMethod yX0_acceptsHint, Cond.selects RX0 yX0_acceptsHint yX0_acceptsHint, Cond.code yX0_acceptsHint cX0_acceptsHint 2 (some .boolean)]
def wsL_refusesAny_r10 : List Cond := [Cond.methodLink RX0 32 yX0_isPartWhole, Cond.instanceMethod yX0_isPartWhole, Cond.selects RX0 yX0_isPartWhole yX0_isPartWhole, Cond.code yX0_isPartWhole cX0_isPartWhole 1 (some .boolean), Cond.methodLink RX2 122 yX0_isPartWhole, Cond.methodLink RL 42 yX2_undo, Cond.instanceMethod yX2_undo, Cond.selects RX2 yX2_undo yX2_undo, Cond.code yX2_undo cX2_undo 2 (some .int), Cond.methodLink RL 45 yX2_page, Cond.instanceMethod yX2_page, Cond.selects RX2 yX2_page yX2_page, Cond.code yX2_page cX2_page 3 (some .int), Cond.methodLink RX2 147 yX1_pageProperty, Cond.instanceMethod yX1_pageProperty, Cond.selects RX1 yX1_pageProperty yX1_pageProperty, Cond.code yX1_pageProperty cX1_pageProperty 3 (some .int), Cond.methodLink RX1 126 yX1_blockOf, Cond.methodLink RL 48 yX2_block, Cond.instanceMethod yX2_block, Cond.selects RX2 yX2_block yX2_block, Cond.code yX2_block cX2_block 3 (some .int), Cond.methodLink RX2 151 yX1_blockProperty, Cond.instanceMethod yX1_blockProperty]
def wsL_refusesAny_r11 : List Cond := [Cond.selects RX1 yX1_blockProperty yX1_blockProperty, Cond.code yX1_blockProperty cX1_blockProperty 3 (some .int), Cond.methodLink RX1 129 yX1_stateOf, Cond.methodLink RX1 132 yX1_closedAheadOf, Cond.instanceMethod yX1_closedAheadOf, Cond.selects RX1 yX1_closedAheadOf yX1_closedAheadOf, Cond.code yX1_closedAheadOf cX1_closedAheadOf 4 (some .int), Cond.methodLink RX1 135 yX1_unlikeHintsOf, Cond.instanceMethod yX1_unlikeHintsOf, Cond.selects RX1 yX1_unlikeHintsOf yX1_unlikeHintsOf, Cond.code yX1_unlikeHintsOf cX1_unlikeHintsOf 5 (some .int), Cond.methodLink RX1 138 yJ6_bitCount_0f7a4, Cond.static yJ6_bitCount_0f7a4, Cond.initialized RJ6, Cond.code yJ6_bitCount_0f7a4 cJ6_bitCount_0f7a4 1 (some .int), Cond.constant RJ6 265 (1431655765), Cond.constant RJ6 266 (858993459), Cond.constant RJ6 267 (252645135), Cond.methodLink RL 51 yX2_slot, Cond.instanceMethod yX2_slot, Cond.selects RX2 yX2_slot yX2_slot, Cond.code yX2_slot cX2_slot 5 (some .int), Cond.fieldLink RX2 159 "HintedPages$Store" "pageAt" "[I", Cond.methodLink RX2 156 yX1_validPageAt]
def wsL_refusesAny_r12 : List Cond := [Cond.methodLink RL 55 yX2_stream, Cond.instanceMethod yX2_stream, Cond.selects RX2 yX2_stream yX2_stream, Cond.code yX2_stream cX2_stream 3 (some .int), Cond.methodLink RX2 164 yX1_streamProperty, Cond.instanceMethod yX1_streamProperty, Cond.selects RX1 yX1_streamProperty yX1_streamProperty, Cond.code yX1_streamProperty cX1_streamProperty 3 (some .int), Cond.methodLink RX1 143 yX1_pagesWithHint, Cond.instanceMethod yX1_pagesWithHint, Cond.selects RX1 yX1_pagesWithHint yX1_pagesWithHint, Cond.code yX1_pagesWithHint cX1_pagesWithHint 4 (some .int), Cond.methodLink RX1 146 yX1_percentOf, Cond.instanceMethod yX1_percentOf, Cond.selects RX1 yX1_percentOf yX1_percentOf, Cond.code yX1_percentOf cX1_percentOf 3 (some .int), Cond.methodLink RL 58 yX2_count, Cond.instanceMethod yX2_count, Cond.selects RX2 yX2_count yX2_count, Cond.code yX2_count cX2_count 2 (some .int), Cond.methodLink RX2 167 yX1_total, Cond.instanceMethod yX1_total, Cond.selects RX1 yX1_total yX1_total, Cond.code yX1_total cX1_total 2 (some .int)]
def wsL_refusesAny_r13 : List Cond := [Cond.methodLink RX1 149 yX1_sum, Cond.static yX1_sum, Cond.code yX1_sum cX1_sum 6 (some .int), Cond.methodLink RX1 153 yX1_openBlocks, Cond.instanceMethod yX1_openBlocks, Cond.selects RX1 yX1_openBlocks yX1_openBlocks, Cond.code yX1_openBlocks cX1_openBlocks 3 (some .int), Cond.methodLink RX1 156 yX1_writes, Cond.instanceMethod yX1_writes, Cond.selects RX1 yX1_writes yX1_writes, Cond.code yX1_writes cX1_writes 1 (some .int), Cond.methodLink RX1 159 yX1_erasures, Cond.instanceMethod yX1_erasures, Cond.selects RX1 yX1_erasures yX1_erasures, Cond.code yX1_erasures cX1_erasures 1 (some .int), Cond.methodLink RX1 162 yX1_spreadOfErasures, Cond.instanceMethod yX1_spreadOfErasures, Cond.selects RX1 yX1_spreadOfErasures yX1_spreadOfErasures, Cond.code yX1_spreadOfErasures cX1_spreadOfErasures 4 (some .int), Cond.methodLink RX1 165 Lib.Math.max.name, Cond.static Lib.Math.max.name, Cond.code Lib.Math.max.name Lib.Math.max.code 2 (some .int), Cond.methodLink RL 61 yX2_setting, Cond.instanceMethod yX2_setting]
def wsL_refusesAny_r14 : List Cond := [Cond.selects RX2 yX2_setting yX2_setting, Cond.code yX2_setting cX2_setting 2 (some .int), Cond.methodLink RL 64 yX2_ifWritten, Cond.instanceMethod yX2_ifWritten, Cond.selects RX2 yX2_ifWritten yX2_ifWritten, Cond.code yX2_ifWritten cX2_ifWritten 4 (some .int), Cond.methodLink RX2 170 yX2_tryWriting, Cond.instanceMethod yX2_tryWriting, Cond.selects RX2 yX2_tryWriting yX2_tryWriting, Cond.code yX2_tryWriting cX2_tryWriting 3 none, Cond.fieldLink RX2 16 "HintedPages" "trial" "LHintedPages$Store;", Cond.methodLink RX2 228 yX1_writePage, Cond.methodLink RX2 174 yX2_forecast, Cond.instanceMethod yX2_forecast, Cond.selects RX2 yX2_forecast yX2_forecast, Cond.code yX2_forecast cX2_forecast 3 (some .int), Cond.methodLink RX2 231 yX1_erasures, Cond.methodLink RL 67 yX2_ifRewritten, Cond.instanceMethod yX2_ifRewritten, Cond.selects RX2 yX2_ifRewritten yX2_ifRewritten, Cond.code yX2_ifRewritten cX2_ifRewritten 2 (some .int), Cond.methodLink RX2 179 yX2_copiesOfRewriting, Cond.instanceMethod yX2_copiesOfRewriting, Cond.selects RX2 yX2_copiesOfRewriting yX2_copiesOfRewriting]
def wsL_refusesAny_r15 : List Cond := [Cond.code yX2_copiesOfRewriting cX2_copiesOfRewriting 5 (some .int), Cond.methodLink RL 70 yX2_bestRule, Cond.instanceMethod yX2_bestRule, Cond.selects RX2 yX2_bestRule yX2_bestRule, Cond.code yX2_bestRule cX2_bestRule 6 (some .int)]
def wsL_refusesAny : List Cond := .code yL_refusesAny cL_refusesAny 5 (some .boolean) :: ((wsL_refusesAny_r1 ++ (wsL_refusesAny_r2 ++ (wsL_refusesAny_r3 ++ (wsL_refusesAny_r4 ++ (wsL_refusesAny_r5 ++ (wsL_refusesAny_r6 ++ (wsL_refusesAny_r7 ++ (wsL_refusesAny_r8 ++ (wsL_refusesAny_r9 ++ (wsL_refusesAny_r10 ++ (wsL_refusesAny_r11 ++ (wsL_refusesAny_r12 ++ (wsL_refusesAny_r13 ++ (wsL_refusesAny_r14 ++ wsL_refusesAny_r15)))))))))))))) ++ wsX20 ++ wsX10 ++ wsX00 ++ (vx_atS RX2 49 "java/lang/IndexOutOfBoundsException" ["java/lang/RuntimeException", "java/lang/Exception"]).filter goodWord ++ (vx_atS RX2 56 "java/lang/IllegalArgumentException" ["java/lang/RuntimeException", "java/lang/Exception"]).filter goodWord ++ (vx_atS RX2 82 "java/lang/IllegalStateException" ["java/lang/RuntimeException", "java/lang/Exception"]).filter goodWord)
def wsL_refused_r1 : List Cond := [Cond.methodLink RL 92 yL_seen, Cond.static yL_seen, Cond.initialized RL, Cond.code yL_seen cL_seen 4 (some .long), Cond.constantLong RL 85 (7), Cond.constantLong RL 87 (31), Cond.methodLink RL 58 yX2_count, Cond.instanceMethod yX2_count, Cond.selects RX2 yX2_count yX2_count, Cond.initialized RX2, Cond.code yX2_count cX2_count 2 (some .int), Cond.classLink RX2 52 "java/lang/IllegalArgumentException", Cond.initialized "java/lang/IllegalArgumentException", Cond.fieldLink RX2 23 "HintedPages" "savedStates" "I", Cond.fieldLink RX2 10 "HintedPages" "store" "LHintedPages$Store;", Cond.methodLink RX2 41 yX2_isIn, Cond.static yX2_isIn, Cond.code yX2_isIn cX2_isIn 2 (some .boolean), Cond.methodLink RX2 167 yX1_total, Cond.instanceMethod yX1_total, Cond.selects RX1 yX1_total yX1_total, Cond.initialized RX1, Cond.code yX1_total cX1_total 2 (some .int), Cond.fieldLink RX1 36 "HintedPages$Store" "validOfBlock" "[I"]
def wsL_refused_r2 : List Cond := [Cond.fieldLink RX1 57 "HintedPages$Store" "freeBlocks" "I", Cond.fieldLink RX1 33 "HintedPages$Store" "programmedOfBlock" "[I", Cond.methodLink RX1 149 yX1_sum, Cond.static yX1_sum, Cond.code yX1_sum cX1_sum 6 (some .int), Cond.methodLink RX1 153 yX1_openBlocks, Cond.instanceMethod yX1_openBlocks, Cond.selects RX1 yX1_openBlocks yX1_openBlocks, Cond.code yX1_openBlocks cX1_openBlocks 3 (some .int), Cond.fieldLink RX1 45 "HintedPages$Store" "openOfStream" "[I", Cond.methodLink RX1 156 yX1_writes, Cond.instanceMethod yX1_writes, Cond.selects RX1 yX1_writes yX1_writes, Cond.code yX1_writes cX1_writes 1 (some .int), Cond.fieldLink RX1 18 "HintedPages$Store" "writesOfPage" "[I", Cond.methodLink RX1 86 yX1_copies, Cond.instanceMethod yX1_copies, Cond.selects RX1 yX1_copies yX1_copies, Cond.code yX1_copies cX1_copies 1 (some .int), Cond.fieldLink RX1 48 "HintedPages$Store" "programmedOfStream" "[I", Cond.methodLink RX1 159 yX1_erasures, Cond.instanceMethod yX1_erasures, Cond.selects RX1 yX1_erasures yX1_erasures, Cond.code yX1_erasures cX1_erasures 1 (some .int)]
def wsL_refused_r3 : List Cond := [Cond.fieldLink RX1 39 "HintedPages$Store" "erasuresOfBlock" "[I", Cond.methodLink RX1 162 yX1_spreadOfErasures, Cond.instanceMethod yX1_spreadOfErasures, Cond.selects RX1 yX1_spreadOfErasures yX1_spreadOfErasures, Cond.code yX1_spreadOfErasures cX1_spreadOfErasures 4 (some .int), Cond.methodLink RX1 165 Lib.Math.max.name, Cond.static Lib.Math.max.name, Cond.initialized "java/lang/Math", Cond.code Lib.Math.max.name Lib.Math.max.code 2 (some .int), Cond.methodLink RX1 74 Lib.Math.min.name, Cond.static Lib.Math.min.name, Cond.code Lib.Math.min.name Lib.Math.min.code 2 (some .int), Cond.methodLink RX1 106 yX1_victim, Cond.instanceMethod yX1_victim, Cond.selects RX1 yX1_victim yX1_victim, Cond.code yX1_victim cX1_victim 5 (some .int), Cond.methodLink RX1 113 yX1_rankOf, Cond.instanceMethod yX1_rankOf, Cond.selects RX1 yX1_rankOf yX1_rankOf, Cond.code yX1_rankOf cX1_rankOf 2 (some .int), Cond.fieldLink RX1 54 "HintedPages$Store" "settings" "[I", Cond.fieldLink RX1 42 "HintedPages$Store" "closingOfBlock" "[I", Cond.methodLink RL 45 yX2_page, Cond.instanceMethod yX2_page]
def wsL_refused_r4 : List Cond := [Cond.selects RX2 yX2_page yX2_page, Cond.code yX2_page cX2_page 3 (some .int), Cond.classLink RX2 45 "java/lang/IndexOutOfBoundsException", Cond.initialized "java/lang/IndexOutOfBoundsException", Cond.methodLink RX2 147 yX1_pageProperty, Cond.instanceMethod yX1_pageProperty, Cond.selects RX1 yX1_pageProperty yX1_pageProperty, Cond.code yX1_pageProperty cX1_pageProperty 3 (some .int), Cond.fieldLink RX1 9 "HintedPages$Store" "placeOfPage" "[I", Cond.fieldLink RX1 15 "HintedPages$Store" "hintOfPage" "[I", Cond.fieldLink RX1 21 "HintedPages$Store" "copiesOfPage" "[I", Cond.fieldLink RX1 24 "HintedPages$Store" "copiesSinceWrite" "[I", Cond.methodLink RX1 126 yX1_blockOf, Cond.instanceMethod yX1_blockOf, Cond.selects RX1 yX1_blockOf yX1_blockOf, Cond.code yX1_blockOf cX1_blockOf 2 (some .int), Cond.methodLink RX1 122 yX1_isWritten, Cond.instanceMethod yX1_isWritten, Cond.selects RX1 yX1_isWritten yX1_isWritten, Cond.code yX1_isWritten cX1_isWritten 2 (some .boolean), Cond.methodLink RL 48 yX2_block, Cond.instanceMethod yX2_block, Cond.selects RX2 yX2_block yX2_block, Cond.code yX2_block cX2_block 3 (some .int)]
def wsL_refused_r5 : List Cond := [Cond.methodLink RX2 151 yX1_blockProperty, Cond.instanceMethod yX1_blockProperty, Cond.selects RX1 yX1_blockProperty yX1_blockProperty, Cond.code yX1_blockProperty cX1_blockProperty 3 (some .int), Cond.fieldLink RX1 30 "HintedPages$Store" "streamOfBlock" "[I", Cond.methodLink RX1 129 yX1_stateOf, Cond.instanceMethod yX1_stateOf, Cond.selects RX1 yX1_stateOf yX1_stateOf, Cond.code yX1_stateOf cX1_stateOf 2 (some .int), Cond.methodLink RX1 132 yX1_closedAheadOf, Cond.instanceMethod yX1_closedAheadOf, Cond.selects RX1 yX1_closedAheadOf yX1_closedAheadOf, Cond.code yX1_closedAheadOf cX1_closedAheadOf 4 (some .int), Cond.methodLink RX1 135 yX1_unlikeHintsOf, Cond.instanceMethod yX1_unlikeHintsOf, Cond.selects RX1 yX1_unlikeHintsOf yX1_unlikeHintsOf, Cond.code yX1_unlikeHintsOf cX1_unlikeHintsOf 5 (some .int), Cond.methodLink RX1 116 yX1_validPageAt, Cond.instanceMethod yX1_validPageAt, Cond.selects RX1 yX1_validPageAt yX1_validPageAt, Cond.code yX1_validPageAt cX1_validPageAt 3 (some .int), Cond.fieldLink RX1 27 "HintedPages$Store" "pageAt" "[I", Cond.methodLink RX1 138 yJ6_bitCount_0f7a4, Cond.static yJ6_bitCount_0f7a4]
def wsL_refused_r6 : List Cond := [Cond.initialized RJ6, Cond.code yJ6_bitCount_0f7a4 cJ6_bitCount_0f7a4 1 (some .int), Cond.constant RJ6 265 (1431655765), Cond.constant RJ6 266 (858993459), Cond.constant RJ6 267 (252645135), Cond.methodLink RL 51 yX2_slot, Cond.instanceMethod yX2_slot, Cond.selects RX2 yX2_slot yX2_slot, Cond.code yX2_slot cX2_slot 5 (some .int), Cond.fieldLink RX2 159 "HintedPages$Store" "pageAt" "[I", Cond.methodLink RX2 156 yX1_validPageAt, Cond.methodLink RL 55 yX2_stream, Cond.instanceMethod yX2_stream, Cond.selects RX2 yX2_stream yX2_stream, Cond.code yX2_stream cX2_stream 3 (some .int), Cond.methodLink RX2 164 yX1_streamProperty, Cond.instanceMethod yX1_streamProperty, Cond.selects RX1 yX1_streamProperty yX1_streamProperty, Cond.code yX1_streamProperty cX1_streamProperty 3 (some .int), Cond.fieldLink RX1 51 "HintedPages$Store" "copiesOfStream" "[I", Cond.methodLink RX1 143 yX1_pagesWithHint, Cond.instanceMethod yX1_pagesWithHint, Cond.selects RX1 yX1_pagesWithHint yX1_pagesWithHint, Cond.code yX1_pagesWithHint cX1_pagesWithHint 4 (some .int)]
def wsL_refused_r7 : List Cond := [Cond.methodLink RX1 146 yX1_percentOf, Cond.instanceMethod yX1_percentOf, Cond.selects RX1 yX1_percentOf yX1_percentOf, Cond.code yX1_percentOf cX1_percentOf 3 (some .int), Cond.methodLink RL 61 yX2_setting, Cond.instanceMethod yX2_setting, Cond.selects RX2 yX2_setting yX2_setting, Cond.code yX2_setting cX2_setting 2 (some .int), Cond.fieldLink RX2 112 "HintedPages$Store" "settings" "[I", Cond.methodLink RL 96 yL_refusesAny, Cond.static yL_refusesAny, Cond.code yL_refusesAny cL_refusesAny 5 (some .boolean), Cond.methodLink RL 89 yL_told, Cond.static yL_told, Cond.codeWith yL_told cL_told 6 (some .int) [(0, 9, 10, 79), (0, 9, 15, 81), (0, 9, 20, 83)], Cond.classLink RL 79 "java/lang/IndexOutOfBoundsException", Cond.classLink RL 81 "java/lang/IllegalArgumentException", Cond.classLink RL 83 "java/lang/IllegalStateException", Cond.methodLink RL 73 yL_call, Cond.static yL_call, Cond.code yL_call cL_call 5 (some .int), Cond.methodLink RL 9 yX2_write, Cond.instanceMethod yX2_write, Cond.selects RX2 yX2_write yX2_write]
def wsL_refused_r8 : List Cond := [Cond.code yX2_write cX2_write 3 (some .int), Cond.methodLink RX2 57 yX2_saveState, Cond.instanceMethod yX2_saveState, Cond.selects RX2 yX2_saveState yX2_saveState, Cond.code yX2_saveState cX2_saveState 1 none, Cond.fieldLink RX2 19 "HintedPages" "saved" "[LHintedPages$Store;", Cond.methodLink RX2 221 yX2_dropOldest, Cond.instanceMethod yX2_dropOldest, Cond.selects RX2 yX2_dropOldest yX2_dropOldest, Cond.code yX2_dropOldest cX2_dropOldest 3 none, Cond.methodLink RX2 224 yX1_becomeLike, Cond.instanceMethod yX1_becomeLike, Cond.selects RX1 yX1_becomeLike yX1_becomeLike, Cond.code yX1_becomeLike cX1_becomeLike 2 none, Cond.fieldLink RX1 61 "HintedPages$Store" "closings" "I", Cond.methodLink RX1 70 yX1_copyRow, Cond.static yX1_copyRow, Cond.code yX1_copyRow cX1_copyRow 2 none, Cond.methodLink RX1 80 arraycopyName, Cond.native arraycopyName, Cond.static arraycopyName, Cond.initialized "java/lang/System", Cond.methodLink RX2 60 yX1_writePages, Cond.instanceMethod yX1_writePages]
def wsL_refused_r9 : List Cond := [Cond.selects RX1 yX1_writePages yX1_writePages, Cond.code yX1_writePages cX1_writePages 6 (some .int), Cond.methodLink RX1 90 yX1_writePage, Cond.instanceMethod yX1_writePage, Cond.selects RX1 yX1_writePage yX1_writePage, Cond.code yX1_writePage cX1_writePage 3 none, Cond.methodLink RX1 94 yX1_collectVictims, Cond.instanceMethod yX1_collectVictims, Cond.selects RX1 yX1_collectVictims yX1_collectVictims, Cond.code yX1_collectVictims cX1_collectVictims 4 (some .int), Cond.constant RX1 105 (1000000), Cond.methodLink RX1 109 yX1_collectBlock, Cond.instanceMethod yX1_collectBlock, Cond.selects RX1 yX1_collectBlock yX1_collectBlock, Cond.code yX1_collectBlock cX1_collectBlock 4 none, Cond.methodLink RX1 98 yX1_openBlock, Cond.instanceMethod yX1_openBlock, Cond.selects RX1 yX1_openBlock yX1_openBlock, Cond.code yX1_openBlock cX1_openBlock 4 (some .int), Cond.methodLink RX1 101 yX1_program, Cond.instanceMethod yX1_program, Cond.selects RX1 yX1_program yX1_program, Cond.code yX1_program cX1_program 6 none, Cond.methodLink RX1 119 yX1_erase]
def wsL_refused_r10 : List Cond := [Cond.instanceMethod yX1_erase, Cond.selects RX1 yX1_erase yX1_erase, Cond.code yX1_erase cX1_erase 3 none, Cond.methodLink RL 15 yX2_writeRow, Cond.instanceMethod yX2_writeRow, Cond.selects RX2 yX2_writeRow yX2_writeRow, Cond.code yX2_writeRow cX2_writeRow 4 (some .int), Cond.methodLink RL 19 yX2_trim, Cond.instanceMethod yX2_trim, Cond.selects RX2 yX2_trim yX2_trim, Cond.code yX2_trim cX2_trim 3 (some .int), Cond.methodLink RX2 66 yX1_blockOf, Cond.methodLink RX2 70 yX1_forget, Cond.instanceMethod yX1_forget, Cond.selects RX1 yX1_forget yX1_forget, Cond.code yX1_forget cX1_forget 3 none, Cond.methodLink RL 23 yX2_hint, Cond.instanceMethod yX2_hint, Cond.selects RX2 yX2_hint yX2_hint, Cond.code yX2_hint cX2_hint 4 (some .int), Cond.classLink RX2 78 "java/lang/IllegalStateException", Cond.initialized "java/lang/IllegalStateException", Cond.fieldLink RX2 83 "HintedPages$Store" "hintOfPage" "[I", Cond.methodLink RX2 74 yX1_isWritten]
def wsL_refused_r11 : List Cond := [Cond.methodLink RL 26 yX2_collect, Cond.instanceMethod yX2_collect, Cond.selects RX2 yX2_collect yX2_collect, Cond.code yX2_collect cX2_collect 3 (some .int), Cond.methodLink RX2 88 yX1_stateOf, Cond.methodLink RX2 93 yX1_copies, Cond.methodLink RX2 97 yX1_collectBlock, Cond.methodLink RL 29 yX2_tidy, Cond.instanceMethod yX2_tidy, Cond.selects RX2 yX2_tidy yX2_tidy, Cond.code yX2_tidy cX2_tidy 2 (some .int), Cond.methodLink RX2 102 yX1_collectVictims, Cond.methodLink RL 32 yX2_set, Cond.instanceMethod yX2_set, Cond.selects RX2 yX2_set yX2_set, Cond.code yX2_set cX2_set 4 (some .int), Cond.methodLink RX2 107 yX2_isSettingValue, Cond.static yX2_isSettingValue, Cond.code yX2_isSettingValue cX2_isSettingValue 2 (some .boolean), Cond.methodLink RL 35 yX2_append, Cond.instanceMethod yX2_append, Cond.selects RX2 yX2_append yX2_append, Cond.code yX2_append cX2_append 2 (some .int), Cond.fieldLink RX2 31 "HintedPages" "length" "I"]
def wsL_refused_r12 : List Cond := [Cond.fieldLink RX2 27 "HintedPages" "codes" "[I", Cond.methodLink RL 38 yX2_writeAll, Cond.instanceMethod yX2_writeAll, Cond.selects RX2 yX2_writeAll yX2_writeAll, Cond.code yX2_writeAll cX2_writeAll 3 (some .int), Cond.fieldLink RX2 37 "HintedPages" "reader" "LHintedPages$Reader;", Cond.fieldLink RX2 134 "HintedPages$Reader" "first" "I", Cond.fieldLink RX2 137 "HintedPages$Reader" "last" "I", Cond.fieldLink RX2 140 "HintedPages$Reader" "hint" "I", Cond.methodLink RX2 119 yX2_readBuffer, Cond.instanceMethod yX2_readBuffer, Cond.selects RX2 yX2_readBuffer yX2_readBuffer, Cond.code yX2_readBuffer cX2_readBuffer 2 (some .int), Cond.methodLink RX2 128 yX0_restart, Cond.instanceMethod yX0_restart, Cond.selects RX0 yX0_restart yX0_restart, Cond.initialized RX0, Cond.code yX0_restart cX0_restart 1 none, Cond.fieldLink RX0 11 "HintedPages$Reader" "behind" "I", Cond.methodLink RX2 131 yX0_accepts, Cond.instanceMethod yX0_accepts, Cond.selects RX0 yX0_accepts yX0_accepts, Cond.code yX0_accepts cX0_accepts 2 (some .boolean), Cond.fieldLink RX0 15 "HintedPages$Reader" "first" "I"]
def wsL_refused_r13 : List Cond := [Cond.methodLink RX0 24 yX0_acceptsDigit, Cond.instanceMethod yX0_acceptsDigit, Cond.selects RX0 yX0_acceptsDigit yX0_acceptsDigit, Cond.code yX0_acceptsDigit cX0_acceptsDigit 2 (some .boolean), Cond.fieldLink RX0 18 "HintedPages$Reader" "last" "I", Cond.fieldLink RX0 21 "HintedPages$Reader" "hint" "I", Cond.methodLink RX0 28 yX0_goesOn, Cond.instanceMethod yX0_goesOn, Cond.selects RX0 yX0_goesOn yX0_goesOn, Cond.code yX0_goesOn cX0_goesOn 3 (some .boolean), Cond.methodLink RX0 36 yX0_acceptsFirst, Cond.instanceMethod yX0_acceptsFirst, Cond.selects RX0 yX0_acceptsFirst yX0_acceptsFirst, Cond.code yX0_acceptsFirst cX0_acceptsFirst 2 (some .boolean), Cond.methodLink RX0 39 yX0_mayGrow, Cond.static yX0_mayGrow, Cond.code yX0_mayGrow cX0_mayGrow 1 (some .boolean), Cond.methodLink RX0 42 yX0_acceptsLast, Cond.instanceMethod yX0_acceptsLast, Cond.selects RX0 yX0_acceptsLast yX0_acceptsLast, Cond.code yX0_acceptsLast cX0_acceptsLast 3 (some .boolean), Cond.methodLink RX0 46 yX0_acceptsHint, Cond.instanceMethod yX0_acceptsHint, Cond.selects RX0 yX0_acceptsHint yX0_acceptsHint]
def wsL_refused_r14 : List Cond := [Cond.code yX0_acceptsHint cX0_acceptsHint 2 (some .boolean), Cond.methodLink RX0 32 yX0_isPartWhole, Cond.instanceMethod yX0_isPartWhole, Cond.selects RX0 yX0_isPartWhole yX0_isPartWhole, Cond.code yX0_isPartWhole cX0_isPartWhole 1 (some .boolean), Cond.methodLink RX2 122 yX0_isPartWhole, Cond.methodLink RL 42 yX2_undo, Cond.instanceMethod yX2_undo, Cond.selects RX2 yX2_undo yX2_undo, Cond.code yX2_undo cX2_undo 2 (some .int), Cond.methodLink RL 64 yX2_ifWritten, Cond.instanceMethod yX2_ifWritten, Cond.selects RX2 yX2_ifWritten yX2_ifWritten, Cond.code yX2_ifWritten cX2_ifWritten 4 (some .int), Cond.methodLink RX2 170 yX2_tryWriting, Cond.instanceMethod yX2_tryWriting, Cond.selects RX2 yX2_tryWriting yX2_tryWriting, Cond.code yX2_tryWriting cX2_tryWriting 3 none, Cond.fieldLink RX2 16 "HintedPages" "trial" "LHintedPages$Store;", Cond.methodLink RX2 228 yX1_writePage, Cond.methodLink RX2 174 yX2_forecast, Cond.instanceMethod yX2_forecast, Cond.selects RX2 yX2_forecast yX2_forecast, Cond.code yX2_forecast cX2_forecast 3 (some .int)]
def wsL_refused_r15 : List Cond := [Cond.methodLink RX2 231 yX1_erasures, Cond.methodLink RL 67 yX2_ifRewritten, Cond.instanceMethod yX2_ifRewritten, Cond.selects RX2 yX2_ifRewritten yX2_ifRewritten, Cond.code yX2_ifRewritten cX2_ifRewritten 2 (some .int), Cond.methodLink RX2 179 yX2_copiesOfRewriting, Cond.instanceMethod yX2_copiesOfRewriting, Cond.selects RX2 yX2_copiesOfRewriting yX2_copiesOfRewriting, Cond.code yX2_copiesOfRewriting cX2_copiesOfRewriting 5 (some .int), Cond.methodLink RL 70 yX2_bestRule, Cond.instanceMethod yX2_bestRule, Cond.selects RX2 yX2_bestRule yX2_bestRule, Cond.code yX2_bestRule cX2_bestRule 6 (some .int)]
def wsL_refused : List Cond := .code yL_refused cL_refused 4 (some .boolean) :: ((wsL_refused_r1 ++ (wsL_refused_r2 ++ (wsL_refused_r3 ++ (wsL_refused_r4 ++ (wsL_refused_r5 ++ (wsL_refused_r6 ++ (wsL_refused_r7 ++ (wsL_refused_r8 ++ (wsL_refused_r9 ++ (wsL_refused_r10 ++ (wsL_refused_r11 ++ (wsL_refused_r12 ++ (wsL_refused_r13 ++ (wsL_refused_r14 ++ wsL_refused_r15)))))))))))))) ++ wsX20 ++ wsX10 ++ wsX00 ++ (vx_atS RX2 56 "java/lang/IllegalArgumentException" ["java/lang/RuntimeException", "java/lang/Exception"]).filter goodWord ++ (vx_atS RX2 49 "java/lang/IndexOutOfBoundsException" ["java/lang/RuntimeException", "java/lang/Exception"]).filter goodWord ++ (vx_atS RX2 82 "java/lang/IllegalStateException" ["java/lang/RuntimeException", "java/lang/Exception"]).filter goodWord)
def wsL_pages_r1 : List Cond := [Cond.classLink RL 10 RX2, Cond.instantiable RX2 7, Cond.initialized RX2, Cond.constantDouble RL 105 (4610334938539176755), Cond.methodLink RL 100 yX2_init, Cond.instanceMethod yX2_init, Cond.code yX2_init cX2_init 2 none, Cond.methodLink RX2 1 objectInit, Cond.instanceMethod objectInit, Cond.code objectInit ⟨#[0xb1]⟩ 1 none, Cond.classLink RX2 7 RX1, Cond.instantiable RX1 17, Cond.initialized RX1, Cond.fieldLink RX2 10 "HintedPages" "store" "LHintedPages$Store;", Cond.fieldLink RX2 16 "HintedPages" "trial" "LHintedPages$Store;", Cond.fieldLink RX2 19 "HintedPages" "saved" "[LHintedPages$Store;", Cond.fieldLink RX2 23 "HintedPages" "savedStates" "I", Cond.arrayClass .int, Cond.fieldLink RX2 27 "HintedPages" "codes" "[I", Cond.fieldLink RX2 31 "HintedPages" "length" "I", Cond.classLink RX2 34 RX0, Cond.instantiable RX0 4, Cond.initialized RX0, Cond.fieldLink RX2 37 "HintedPages" "reader" "LHintedPages$Reader;"]
def wsL_pages_r2 : List Cond := [Cond.methodLink RX2 9 yX1_init, Cond.instanceMethod yX1_init, Cond.code yX1_init cX1_init 1 none, Cond.methodLink RX1 3 objectInit, Cond.fieldLink RX1 9 "HintedPages$Store" "placeOfPage" "[I", Cond.fieldLink RX1 15 "HintedPages$Store" "hintOfPage" "[I", Cond.fieldLink RX1 18 "HintedPages$Store" "writesOfPage" "[I", Cond.fieldLink RX1 21 "HintedPages$Store" "copiesOfPage" "[I", Cond.fieldLink RX1 24 "HintedPages$Store" "copiesSinceWrite" "[I", Cond.fieldLink RX1 27 "HintedPages$Store" "pageAt" "[I", Cond.fieldLink RX1 30 "HintedPages$Store" "streamOfBlock" "[I", Cond.fieldLink RX1 33 "HintedPages$Store" "programmedOfBlock" "[I", Cond.fieldLink RX1 36 "HintedPages$Store" "validOfBlock" "[I", Cond.fieldLink RX1 39 "HintedPages$Store" "erasuresOfBlock" "[I", Cond.fieldLink RX1 42 "HintedPages$Store" "closingOfBlock" "[I", Cond.fieldLink RX1 45 "HintedPages$Store" "openOfStream" "[I", Cond.fieldLink RX1 48 "HintedPages$Store" "programmedOfStream" "[I", Cond.fieldLink RX1 51 "HintedPages$Store" "copiesOfStream" "[I", Cond.fieldLink RX1 54 "HintedPages$Store" "settings" "[I", Cond.fieldLink RX1 57 "HintedPages$Store" "freeBlocks" "I", Cond.fieldLink RX1 61 "HintedPages$Store" "closings" "I", Cond.methodLink RX1 64 yJ7_fill_53178, Cond.static yJ7_fill_53178, Cond.initialized RJ7]
def wsL_pages_r3 : List Cond := [Cond.code yJ7_fill_53178 cJ7_fill_53178 4 none, Cond.instanceMethod yX0_init, Cond.code yX0_init cX0_init 1 none, Cond.methodLink RX0 3 objectInit, Cond.fieldLink RX0 11 "HintedPages$Reader" "behind" "I", Cond.fieldLink RX0 15 "HintedPages$Reader" "first" "I", Cond.fieldLink RX0 18 "HintedPages$Reader" "last" "I", Cond.fieldLink RX0 21 "HintedPages$Reader" "hint" "I", Cond.methodLink RL 89 yL_told, Cond.static yL_told, Cond.initialized RL, Cond.codeWith yL_told cL_told 6 (some .int) [(0, 9, 10, 79), (0, 9, 15, 81), (0, 9, 20, 83)], Cond.classLink RL 79 "java/lang/IndexOutOfBoundsException", Cond.classLink RL 81 "java/lang/IllegalArgumentException", Cond.classLink RL 83 "java/lang/IllegalStateException", Cond.methodLink RL 73 yL_call, Cond.static yL_call, Cond.code yL_call cL_call 5 (some .int), Cond.methodLink RL 9 yX2_write, Cond.instanceMethod yX2_write, Cond.selects RX2 yX2_write yX2_write, Cond.code yX2_write cX2_write 3 (some .int), Cond.classLink RX2 45 "java/lang/IndexOutOfBoundsException", Cond.initialized "java/lang/IndexOutOfBoundsException"]
def wsL_pages_r4 : List Cond := [Cond.classLink RX2 52 "java/lang/IllegalArgumentException", Cond.initialized "java/lang/IllegalArgumentException", Cond.methodLink RX2 41 yX2_isIn, Cond.static yX2_isIn, Cond.code yX2_isIn cX2_isIn 2 (some .boolean), Cond.methodLink RX2 57 yX2_saveState, Cond.instanceMethod yX2_saveState, Cond.selects RX2 yX2_saveState yX2_saveState, Cond.code yX2_saveState cX2_saveState 1 none, Cond.methodLink RX2 221 yX2_dropOldest, Cond.instanceMethod yX2_dropOldest, Cond.selects RX2 yX2_dropOldest yX2_dropOldest, Cond.code yX2_dropOldest cX2_dropOldest 3 none, Cond.methodLink RX2 224 yX1_becomeLike, Cond.instanceMethod yX1_becomeLike, Cond.selects RX1 yX1_becomeLike yX1_becomeLike, Cond.code yX1_becomeLike cX1_becomeLike 2 none, Cond.methodLink RX1 70 yX1_copyRow, Cond.static yX1_copyRow, Cond.code yX1_copyRow cX1_copyRow 2 none, Cond.methodLink RX1 74 Lib.Math.min.name, Cond.static Lib.Math.min.name, Cond.initialized "java/lang/Math", Cond.code Lib.Math.min.name Lib.Math.min.code 2 (some .int)]
def wsL_pages_r5 : List Cond := [Cond.methodLink RX1 80 arraycopyName, Cond.native arraycopyName, Cond.static arraycopyName, Cond.initialized "java/lang/System", Cond.methodLink RX2 60 yX1_writePages, Cond.instanceMethod yX1_writePages, Cond.selects RX1 yX1_writePages yX1_writePages, Cond.code yX1_writePages cX1_writePages 6 (some .int), Cond.methodLink RX1 86 yX1_copies, Cond.instanceMethod yX1_copies, Cond.selects RX1 yX1_copies yX1_copies, Cond.code yX1_copies cX1_copies 1 (some .int), Cond.methodLink RX1 90 yX1_writePage, Cond.instanceMethod yX1_writePage, Cond.selects RX1 yX1_writePage yX1_writePage, Cond.code yX1_writePage cX1_writePage 3 none, Cond.methodLink RX1 94 yX1_collectVictims, Cond.instanceMethod yX1_collectVictims, Cond.selects RX1 yX1_collectVictims yX1_collectVictims, Cond.code yX1_collectVictims cX1_collectVictims 4 (some .int), Cond.constant RX1 105 (1000000), Cond.methodLink RX1 106 yX1_victim, Cond.instanceMethod yX1_victim, Cond.selects RX1 yX1_victim yX1_victim]
def wsL_pages_r6 : List Cond := [Cond.code yX1_victim cX1_victim 5 (some .int), Cond.methodLink RX1 113 yX1_rankOf, Cond.instanceMethod yX1_rankOf, Cond.selects RX1 yX1_rankOf yX1_rankOf, Cond.code yX1_rankOf cX1_rankOf 2 (some .int), Cond.methodLink RX1 109 yX1_collectBlock, Cond.instanceMethod yX1_collectBlock, Cond.selects RX1 yX1_collectBlock yX1_collectBlock, Cond.code yX1_collectBlock cX1_collectBlock 4 none, Cond.methodLink RX1 116 yX1_validPageAt, Cond.instanceMethod yX1_validPageAt, Cond.selects RX1 yX1_validPageAt yX1_validPageAt, Cond.code yX1_validPageAt cX1_validPageAt 3 (some .int), Cond.methodLink RX1 98 yX1_openBlock, Cond.instanceMethod yX1_openBlock, Cond.selects RX1 yX1_openBlock yX1_openBlock, Cond.code yX1_openBlock cX1_openBlock 4 (some .int), Cond.methodLink RX1 101 yX1_program, Cond.instanceMethod yX1_program, Cond.selects RX1 yX1_program yX1_program, Cond.code yX1_program cX1_program 6 none, Cond.methodLink RX1 119 yX1_erase, Cond.instanceMethod yX1_erase, Cond.selects RX1 yX1_erase yX1_erase]
def wsL_pages_r7 : List Cond := [Cond.code yX1_erase cX1_erase 3 none, Cond.methodLink RL 15 yX2_writeRow, Cond.instanceMethod yX2_writeRow, Cond.selects RX2 yX2_writeRow yX2_writeRow, Cond.code yX2_writeRow cX2_writeRow 4 (some .int), Cond.methodLink RL 19 yX2_trim, Cond.instanceMethod yX2_trim, Cond.selects RX2 yX2_trim yX2_trim, Cond.code yX2_trim cX2_trim 3 (some .int), Cond.methodLink RX2 66 yX1_blockOf, Cond.instanceMethod yX1_blockOf, Cond.selects RX1 yX1_blockOf yX1_blockOf, Cond.code yX1_blockOf cX1_blockOf 2 (some .int), Cond.methodLink RX1 122 yX1_isWritten, Cond.instanceMethod yX1_isWritten, Cond.selects RX1 yX1_isWritten yX1_isWritten, Cond.code yX1_isWritten cX1_isWritten 2 (some .boolean), Cond.methodLink RX2 70 yX1_forget, Cond.instanceMethod yX1_forget, Cond.selects RX1 yX1_forget yX1_forget, Cond.code yX1_forget cX1_forget 3 none, Cond.methodLink RL 23 yX2_hint, Cond.instanceMethod yX2_hint, Cond.selects RX2 yX2_hint yX2_hint]
def wsL_pages_r8 : List Cond := [Cond.code yX2_hint cX2_hint 4 (some .int), Cond.classLink RX2 78 "java/lang/IllegalStateException", Cond.initialized "java/lang/IllegalStateException", Cond.fieldLink RX2 83 "HintedPages$Store" "hintOfPage" "[I", Cond.methodLink RX2 74 yX1_isWritten, Cond.methodLink RL 26 yX2_collect, Cond.instanceMethod yX2_collect, Cond.selects RX2 yX2_collect yX2_collect, Cond.code yX2_collect cX2_collect 3 (some .int), Cond.methodLink RX2 88 yX1_stateOf, Cond.instanceMethod yX1_stateOf, Cond.selects RX1 yX1_stateOf yX1_stateOf, Cond.code yX1_stateOf cX1_stateOf 2 (some .int), Cond.methodLink RX2 93 yX1_copies, Cond.methodLink RX2 97 yX1_collectBlock, Cond.methodLink RL 29 yX2_tidy, Cond.instanceMethod yX2_tidy, Cond.selects RX2 yX2_tidy yX2_tidy, Cond.code yX2_tidy cX2_tidy 2 (some .int), Cond.methodLink RX2 102 yX1_collectVictims, Cond.methodLink RL 32 yX2_set, Cond.instanceMethod yX2_set, Cond.selects RX2 yX2_set yX2_set, Cond.code yX2_set cX2_set 4 (some .int)]
def wsL_pages_r9 : List Cond := [Cond.fieldLink RX2 112 "HintedPages$Store" "settings" "[I", Cond.methodLink RX2 107 yX2_isSettingValue, Cond.static yX2_isSettingValue, Cond.code yX2_isSettingValue cX2_isSettingValue 2 (some .boolean), Cond.methodLink RL 35 yX2_append, Cond.instanceMethod yX2_append, Cond.selects RX2 yX2_append yX2_append, Cond.code yX2_append cX2_append 2 (some .int), Cond.methodLink RL 38 yX2_writeAll, Cond.instanceMethod yX2_writeAll, Cond.selects RX2 yX2_writeAll yX2_writeAll, Cond.code yX2_writeAll cX2_writeAll 3 (some .int), Cond.fieldLink RX2 134 "HintedPages$Reader" "first" "I", Cond.fieldLink RX2 137 "HintedPages$Reader" "last" "I", Cond.fieldLink RX2 140 "HintedPages$Reader" "hint" "I", Cond.methodLink RX2 119 yX2_readBuffer, Cond.instanceMethod yX2_readBuffer, Cond.selects RX2 yX2_readBuffer yX2_readBuffer, Cond.code yX2_readBuffer cX2_readBuffer 2 (some .int), Cond.methodLink RX2 128 yX0_restart, Cond.instanceMethod yX0_restart, Cond.selects RX0 yX0_restart yX0_restart, Cond.code yX0_restart cX0_restart 1 none, Cond.methodLink RX2 131 yX0_accepts]
def wsL_pages_r10 : List Cond := [Cond.instanceMethod yX0_accepts, Cond.selects RX0 yX0_accepts yX0_accepts, Cond.code yX0_accepts cX0_accepts 2 (some .boolean), Cond.methodLink RX0 24 yX0_acceptsDigit, Cond.instanceMethod yX0_acceptsDigit, Cond.selects RX0 yX0_acceptsDigit yX0_acceptsDigit, Cond.code yX0_acceptsDigit cX0_acceptsDigit 2 (some .boolean), Cond.methodLink RX0 28 yX0_goesOn, Cond.instanceMethod yX0_goesOn, Cond.selects RX0 yX0_goesOn yX0_goesOn, Cond.code yX0_goesOn cX0_goesOn 3 (some .boolean), Cond.methodLink RX0 36 yX0_acceptsFirst, Cond.instanceMethod yX0_acceptsFirst, Cond.selects RX0 yX0_acceptsFirst yX0_acceptsFirst, Cond.code yX0_acceptsFirst cX0_acceptsFirst 2 (some .boolean), Cond.methodLink RX0 39 yX0_mayGrow, Cond.static yX0_mayGrow, Cond.code yX0_mayGrow cX0_mayGrow 1 (some .boolean), Cond.methodLink RX0 42 yX0_acceptsLast, Cond.instanceMethod yX0_acceptsLast, Cond.selects RX0 yX0_acceptsLast yX0_acceptsLast, Cond.code yX0_acceptsLast cX0_acceptsLast 3 (some .boolean), Cond.methodLink RX0 46 yX0_acceptsHint, Cond.instanceMethod yX0_acceptsHint]
def wsL_pages_r11 : List Cond := [Cond.selects RX0 yX0_acceptsHint yX0_acceptsHint, Cond.code yX0_acceptsHint cX0_acceptsHint 2 (some .boolean), Cond.methodLink RX0 32 yX0_isPartWhole, Cond.instanceMethod yX0_isPartWhole, Cond.selects RX0 yX0_isPartWhole yX0_isPartWhole, Cond.code yX0_isPartWhole cX0_isPartWhole 1 (some .boolean), Cond.methodLink RX2 122 yX0_isPartWhole, Cond.methodLink RL 42 yX2_undo, Cond.instanceMethod yX2_undo, Cond.selects RX2 yX2_undo yX2_undo, Cond.code yX2_undo cX2_undo 2 (some .int), Cond.methodLink RL 45 yX2_page, Cond.instanceMethod yX2_page, Cond.selects RX2 yX2_page yX2_page, Cond.code yX2_page cX2_page 3 (some .int), Cond.methodLink RX2 147 yX1_pageProperty, Cond.instanceMethod yX1_pageProperty, Cond.selects RX1 yX1_pageProperty yX1_pageProperty, Cond.code yX1_pageProperty cX1_pageProperty 3 (some .int), Cond.methodLink RX1 126 yX1_blockOf, Cond.methodLink RL 48 yX2_block, Cond.instanceMethod yX2_block, Cond.selects RX2 yX2_block yX2_block, Cond.code yX2_block cX2_block 3 (some .int)]
def wsL_pages_r12 : List Cond := [Cond.methodLink RX2 151 yX1_blockProperty, Cond.instanceMethod yX1_blockProperty, Cond.selects RX1 yX1_blockProperty yX1_blockProperty, Cond.code yX1_blockProperty cX1_blockProperty 3 (some .int), Cond.methodLink RX1 129 yX1_stateOf, Cond.methodLink RX1 132 yX1_closedAheadOf, Cond.instanceMethod yX1_closedAheadOf, Cond.selects RX1 yX1_closedAheadOf yX1_closedAheadOf, Cond.code yX1_closedAheadOf cX1_closedAheadOf 4 (some .int), Cond.methodLink RX1 135 yX1_unlikeHintsOf, Cond.instanceMethod yX1_unlikeHintsOf, Cond.selects RX1 yX1_unlikeHintsOf yX1_unlikeHintsOf, Cond.code yX1_unlikeHintsOf cX1_unlikeHintsOf 5 (some .int), Cond.methodLink RX1 138 yJ6_bitCount_0f7a4, Cond.static yJ6_bitCount_0f7a4, Cond.initialized RJ6, Cond.code yJ6_bitCount_0f7a4 cJ6_bitCount_0f7a4 1 (some .int), Cond.constant RJ6 265 (1431655765), Cond.constant RJ6 266 (858993459), Cond.constant RJ6 267 (252645135), Cond.methodLink RL 51 yX2_slot, Cond.instanceMethod yX2_slot, Cond.selects RX2 yX2_slot yX2_slot, Cond.code yX2_slot cX2_slot 5 (some .int)]
def wsL_pages_r13 : List Cond := [Cond.fieldLink RX2 159 "HintedPages$Store" "pageAt" "[I", Cond.methodLink RX2 156 yX1_validPageAt, Cond.methodLink RL 55 yX2_stream, Cond.instanceMethod yX2_stream, Cond.selects RX2 yX2_stream yX2_stream, Cond.code yX2_stream cX2_stream 3 (some .int), Cond.methodLink RX2 164 yX1_streamProperty, Cond.instanceMethod yX1_streamProperty, Cond.selects RX1 yX1_streamProperty yX1_streamProperty, Cond.code yX1_streamProperty cX1_streamProperty 3 (some .int), Cond.methodLink RX1 143 yX1_pagesWithHint, Cond.instanceMethod yX1_pagesWithHint, Cond.selects RX1 yX1_pagesWithHint yX1_pagesWithHint, Cond.code yX1_pagesWithHint cX1_pagesWithHint 4 (some .int), Cond.methodLink RX1 146 yX1_percentOf, Cond.instanceMethod yX1_percentOf, Cond.selects RX1 yX1_percentOf yX1_percentOf, Cond.code yX1_percentOf cX1_percentOf 3 (some .int), Cond.methodLink RL 58 yX2_count, Cond.instanceMethod yX2_count, Cond.selects RX2 yX2_count yX2_count, Cond.code yX2_count cX2_count 2 (some .int), Cond.methodLink RX2 167 yX1_total, Cond.instanceMethod yX1_total]
def wsL_pages_r14 : List Cond := [Cond.selects RX1 yX1_total yX1_total, Cond.code yX1_total cX1_total 2 (some .int), Cond.methodLink RX1 149 yX1_sum, Cond.static yX1_sum, Cond.code yX1_sum cX1_sum 6 (some .int), Cond.methodLink RX1 153 yX1_openBlocks, Cond.instanceMethod yX1_openBlocks, Cond.selects RX1 yX1_openBlocks yX1_openBlocks, Cond.code yX1_openBlocks cX1_openBlocks 3 (some .int), Cond.methodLink RX1 156 yX1_writes, Cond.instanceMethod yX1_writes, Cond.selects RX1 yX1_writes yX1_writes, Cond.code yX1_writes cX1_writes 1 (some .int), Cond.methodLink RX1 159 yX1_erasures, Cond.instanceMethod yX1_erasures, Cond.selects RX1 yX1_erasures yX1_erasures, Cond.code yX1_erasures cX1_erasures 1 (some .int), Cond.methodLink RX1 162 yX1_spreadOfErasures, Cond.instanceMethod yX1_spreadOfErasures, Cond.selects RX1 yX1_spreadOfErasures yX1_spreadOfErasures, Cond.code yX1_spreadOfErasures cX1_spreadOfErasures 4 (some .int), Cond.methodLink RX1 165 Lib.Math.max.name, Cond.static Lib.Math.max.name, Cond.code Lib.Math.max.name Lib.Math.max.code 2 (some .int)]
def wsL_pages_r15 : List Cond := [Cond.methodLink RL 61 yX2_setting, Cond.instanceMethod yX2_setting, Cond.selects RX2 yX2_setting yX2_setting, Cond.code yX2_setting cX2_setting 2 (some .int), Cond.methodLink RL 64 yX2_ifWritten, Cond.instanceMethod yX2_ifWritten, Cond.selects RX2 yX2_ifWritten yX2_ifWritten, Cond.code yX2_ifWritten cX2_ifWritten 4 (some .int), Cond.methodLink RX2 170 yX2_tryWriting, Cond.instanceMethod yX2_tryWriting, Cond.selects RX2 yX2_tryWriting yX2_tryWriting, Cond.code yX2_tryWriting cX2_tryWriting 3 none, Cond.methodLink RX2 228 yX1_writePage, Cond.methodLink RX2 174 yX2_forecast, Cond.instanceMethod yX2_forecast, Cond.selects RX2 yX2_forecast yX2_forecast, Cond.code yX2_forecast cX2_forecast 3 (some .int), Cond.methodLink RX2 231 yX1_erasures, Cond.methodLink RL 67 yX2_ifRewritten, Cond.instanceMethod yX2_ifRewritten, Cond.selects RX2 yX2_ifRewritten yX2_ifRewritten, Cond.code yX2_ifRewritten cX2_ifRewritten 2 (some .int), Cond.methodLink RX2 179 yX2_copiesOfRewriting, Cond.instanceMethod yX2_copiesOfRewriting]
def wsL_pages_r16 : List Cond := [Cond.selects RX2 yX2_copiesOfRewriting yX2_copiesOfRewriting, Cond.code yX2_copiesOfRewriting cX2_copiesOfRewriting 5 (some .int), Cond.methodLink RL 70 yX2_bestRule, Cond.instanceMethod yX2_bestRule, Cond.selects RX2 yX2_bestRule yX2_bestRule, Cond.code yX2_bestRule cX2_bestRule 6 (some .int), Cond.methodLink RL 101 yX2_amplification, Cond.instanceMethod yX2_amplification, Cond.selects RX2 yX2_amplification yX2_amplification, Cond.code yX2_amplification cX2_amplification 2 (some .double), Cond.methodLink RX2 182 yX1_writes, Cond.methodLink RL 107 yL_refused, Cond.static yL_refused, Cond.code yL_refused cL_refused 4 (some .boolean), Cond.methodLink RL 92 yL_seen, Cond.static yL_seen, Cond.code yL_seen cL_seen 4 (some .long), Cond.constantLong RL 85 (7), Cond.constantLong RL 87 (31), Cond.methodLink RL 96 yL_refusesAny, Cond.static yL_refusesAny, Cond.code yL_refusesAny cL_refusesAny 5 (some .boolean)]
def wsL_pages : List Cond := .code yL_pages cL_pages 2 (some .boolean) :: ((wsL_pages_r1 ++ (wsL_pages_r2 ++ (wsL_pages_r3 ++ (wsL_pages_r4 ++ (wsL_pages_r5 ++ (wsL_pages_r6 ++ (wsL_pages_r7 ++ (wsL_pages_r8 ++ (wsL_pages_r9 ++ (wsL_pages_r10 ++ (wsL_pages_r11 ++ (wsL_pages_r12 ++ (wsL_pages_r13 ++ (wsL_pages_r14 ++ (wsL_pages_r15 ++ wsL_pages_r16))))))))))))))) ++ wsX20 ++ wsX10 ++ wsX00 ++ (vx_atS RX2 49 "java/lang/IndexOutOfBoundsException" ["java/lang/RuntimeException", "java/lang/Exception"]).filter goodWord ++ (vx_atS RX2 56 "java/lang/IllegalArgumentException" ["java/lang/RuntimeException", "java/lang/Exception"]).filter goodWord ++ (vx_atS RX2 82 "java/lang/IllegalStateException" ["java/lang/RuntimeException", "java/lang/Exception"]).filter goodWord)
def wsL_types : List Cond := .code yL_types cL_types 6 (some .boolean) :: ([.constantLong RL 111 (255), .methodLink RL 35 yX2_append, .instanceMethod yX2_append, .selects RX2 yX2_append yX2_append, .initialized RX2, .code yX2_append cX2_append 2 (some .int), .classLink RX2 52 "java/lang/IllegalArgumentException", .initialized "java/lang/IllegalArgumentException", .classLink RX2 78 "java/lang/IllegalStateException", .initialized "java/lang/IllegalStateException", .fieldLink RX2 31 "HintedPages" "length" "I", .fieldLink RX2 27 "HintedPages" "codes" "[I"] ++ wsX20 ++ (vx_atS RX2 56 "java/lang/IllegalArgumentException" ["java/lang/RuntimeException", "java/lang/Exception"]).filter goodWord ++ (vx_atS RX2 82 "java/lang/IllegalStateException" ["java/lang/RuntimeException", "java/lang/Exception"]).filter goodWord)
def wsL_errorOf_r1 : List Cond := [Cond.classLink RL 10 RX2, Cond.instantiable RX2 7, Cond.initialized RX2, Cond.methodLink RL 100 yX2_init, Cond.instanceMethod yX2_init, Cond.code yX2_init cX2_init 2 none, Cond.methodLink RX2 1 objectInit, Cond.instanceMethod objectInit, Cond.code objectInit ⟨#[0xb1]⟩ 1 none, Cond.classLink RX2 7 RX1, Cond.instantiable RX1 17, Cond.initialized RX1, Cond.fieldLink RX2 10 "HintedPages" "store" "LHintedPages$Store;", Cond.fieldLink RX2 16 "HintedPages" "trial" "LHintedPages$Store;", Cond.fieldLink RX2 19 "HintedPages" "saved" "[LHintedPages$Store;", Cond.fieldLink RX2 23 "HintedPages" "savedStates" "I", Cond.arrayClass .int, Cond.fieldLink RX2 27 "HintedPages" "codes" "[I", Cond.fieldLink RX2 31 "HintedPages" "length" "I", Cond.classLink RX2 34 RX0, Cond.instantiable RX0 4, Cond.initialized RX0, Cond.fieldLink RX2 37 "HintedPages" "reader" "LHintedPages$Reader;", Cond.methodLink RX2 9 yX1_init]
def wsL_errorOf_r2 : List Cond := [Cond.instanceMethod yX1_init, Cond.code yX1_init cX1_init 1 none, Cond.methodLink RX1 3 objectInit, Cond.fieldLink RX1 9 "HintedPages$Store" "placeOfPage" "[I", Cond.fieldLink RX1 15 "HintedPages$Store" "hintOfPage" "[I", Cond.fieldLink RX1 18 "HintedPages$Store" "writesOfPage" "[I", Cond.fieldLink RX1 21 "HintedPages$Store" "copiesOfPage" "[I", Cond.fieldLink RX1 24 "HintedPages$Store" "copiesSinceWrite" "[I", Cond.fieldLink RX1 27 "HintedPages$Store" "pageAt" "[I", Cond.fieldLink RX1 30 "HintedPages$Store" "streamOfBlock" "[I", Cond.fieldLink RX1 33 "HintedPages$Store" "programmedOfBlock" "[I", Cond.fieldLink RX1 36 "HintedPages$Store" "validOfBlock" "[I", Cond.fieldLink RX1 39 "HintedPages$Store" "erasuresOfBlock" "[I", Cond.fieldLink RX1 42 "HintedPages$Store" "closingOfBlock" "[I", Cond.fieldLink RX1 45 "HintedPages$Store" "openOfStream" "[I", Cond.fieldLink RX1 48 "HintedPages$Store" "programmedOfStream" "[I", Cond.fieldLink RX1 51 "HintedPages$Store" "copiesOfStream" "[I", Cond.fieldLink RX1 54 "HintedPages$Store" "settings" "[I", Cond.fieldLink RX1 57 "HintedPages$Store" "freeBlocks" "I", Cond.fieldLink RX1 61 "HintedPages$Store" "closings" "I", Cond.methodLink RX1 64 yJ7_fill_53178, Cond.static yJ7_fill_53178, Cond.initialized RJ7, Cond.code yJ7_fill_53178 cJ7_fill_53178 4 none]
def wsL_errorOf_r3 : List Cond := [Cond.instanceMethod yX0_init, Cond.code yX0_init cX0_init 1 none, Cond.methodLink RX0 3 objectInit, Cond.fieldLink RX0 11 "HintedPages$Reader" "behind" "I", Cond.fieldLink RX0 15 "HintedPages$Reader" "first" "I", Cond.fieldLink RX0 18 "HintedPages$Reader" "last" "I", Cond.fieldLink RX0 21 "HintedPages$Reader" "hint" "I", Cond.methodLink RL 113 yL_types, Cond.static yL_types, Cond.initialized RL, Cond.code yL_types cL_types 6 (some .boolean), Cond.constantLong RL 111 (255), Cond.methodLink RL 35 yX2_append, Cond.instanceMethod yX2_append, Cond.selects RX2 yX2_append yX2_append, Cond.code yX2_append cX2_append 2 (some .int), Cond.classLink RX2 52 "java/lang/IllegalArgumentException", Cond.initialized "java/lang/IllegalArgumentException", Cond.classLink RX2 78 "java/lang/IllegalStateException", Cond.initialized "java/lang/IllegalStateException", Cond.methodLink RL 117 yX2_firstError, Cond.instanceMethod yX2_firstError, Cond.selects RX2 yX2_firstError yX2_firstError, Cond.code yX2_firstError cX2_firstError 1 (some .int)]
def wsL_errorOf_r4 : List Cond := [Cond.methodLink RX2 119 yX2_readBuffer, Cond.instanceMethod yX2_readBuffer, Cond.selects RX2 yX2_readBuffer yX2_readBuffer, Cond.code yX2_readBuffer cX2_readBuffer 2 (some .int), Cond.methodLink RX2 128 yX0_restart, Cond.instanceMethod yX0_restart, Cond.selects RX0 yX0_restart yX0_restart, Cond.code yX0_restart cX0_restart 1 none, Cond.methodLink RX2 131 yX0_accepts, Cond.instanceMethod yX0_accepts, Cond.selects RX0 yX0_accepts yX0_accepts, Cond.code yX0_accepts cX0_accepts 2 (some .boolean), Cond.methodLink RX0 24 yX0_acceptsDigit, Cond.instanceMethod yX0_acceptsDigit, Cond.selects RX0 yX0_acceptsDigit yX0_acceptsDigit, Cond.code yX0_acceptsDigit cX0_acceptsDigit 2 (some .boolean), Cond.methodLink RX0 28 yX0_goesOn, Cond.instanceMethod yX0_goesOn, Cond.selects RX0 yX0_goesOn yX0_goesOn, Cond.code yX0_goesOn cX0_goesOn 3 (some .boolean), Cond.methodLink RX0 36 yX0_acceptsFirst, Cond.instanceMethod yX0_acceptsFirst, Cond.selects RX0 yX0_acceptsFirst yX0_acceptsFirst, Cond.code yX0_acceptsFirst cX0_acceptsFirst 2 (some .boolean)]
def wsL_errorOf_r5 : List Cond := [Cond.methodLink RX0 39 yX0_mayGrow, Cond.static yX0_mayGrow, Cond.code yX0_mayGrow cX0_mayGrow 1 (some .boolean), Cond.methodLink RX0 42 yX0_acceptsLast, Cond.instanceMethod yX0_acceptsLast, Cond.selects RX0 yX0_acceptsLast yX0_acceptsLast, Cond.code yX0_acceptsLast cX0_acceptsLast 3 (some .boolean), Cond.methodLink RX0 46 yX0_acceptsHint, Cond.instanceMethod yX0_acceptsHint, Cond.selects RX0 yX0_acceptsHint yX0_acceptsHint, Cond.code yX0_acceptsHint cX0_acceptsHint 2 (some .boolean), Cond.methodLink RX0 32 yX0_isPartWhole, Cond.instanceMethod yX0_isPartWhole, Cond.selects RX0 yX0_isPartWhole yX0_isPartWhole, Cond.code yX0_isPartWhole cX0_isPartWhole 1 (some .boolean)]
def wsL_errorOf : List Cond := .code yL_errorOf cL_errorOf 3 (some .int) :: ((wsL_errorOf_r1 ++ (wsL_errorOf_r2 ++ (wsL_errorOf_r3 ++ (wsL_errorOf_r4 ++ wsL_errorOf_r5)))) ++ wsX20 ++ wsX10 ++ wsX00 ++ (vx_atS RX2 56 "java/lang/IllegalArgumentException" ["java/lang/RuntimeException", "java/lang/Exception"]).filter goodWord ++ (vx_atS RX2 82 "java/lang/IllegalStateException" ["java/lang/RuntimeException", "java/lang/Exception"]).filter goodWord)
def wsL_texts_r1 : List Cond := [Cond.constantLong RL 124 (3356973), Cond.constantLong RL 126 (3484981), Cond.constantLong RL 128 (3484976), Cond.constantLong RL 130 (3484982), Cond.constantLong RL 132 (842018097), Cond.constantLong RL 134 (215556633147), Cond.constantLong RL 136 (215556633136), Cond.constantLong RL 138 (842018098), Cond.constantLong RL 140 (215556633137), Cond.constantLong RL 142 (892154171), Cond.constantLong RL 144 (3484977), Cond.constantLong RL 146 (58468215056436), Cond.constantLong RL 148 (3500083), Cond.constantLong RL 150 (12343), Cond.constantLong RL 152 (13360), Cond.constantLong RL 154 (52970691061811), Cond.constantLong RL 156 (862466363), Cond.constantLong RL 158 (892154216), Cond.constantLong RL 160 (104), Cond.constantLong RL 162 (858600552), Cond.constantLong RL 164 (56316369516845), Cond.classLink RL 10 RX2, Cond.instantiable RX2 7, Cond.initialized RX2]
def wsL_texts_r2 : List Cond := [Cond.constantLong RL 166 (3471487410368098875), Cond.constantLong RL 168 (48), Cond.methodLink RL 120 yL_errorOf, Cond.static yL_errorOf, Cond.initialized RL, Cond.code yL_errorOf cL_errorOf 3 (some .int), Cond.methodLink RL 100 yX2_init, Cond.instanceMethod yX2_init, Cond.code yX2_init cX2_init 2 none, Cond.methodLink RX2 1 objectInit, Cond.instanceMethod objectInit, Cond.code objectInit ⟨#[0xb1]⟩ 1 none, Cond.classLink RX2 7 RX1, Cond.instantiable RX1 17, Cond.initialized RX1, Cond.fieldLink RX2 10 "HintedPages" "store" "LHintedPages$Store;", Cond.fieldLink RX2 16 "HintedPages" "trial" "LHintedPages$Store;", Cond.fieldLink RX2 19 "HintedPages" "saved" "[LHintedPages$Store;", Cond.fieldLink RX2 23 "HintedPages" "savedStates" "I", Cond.arrayClass .int, Cond.fieldLink RX2 27 "HintedPages" "codes" "[I", Cond.fieldLink RX2 31 "HintedPages" "length" "I", Cond.classLink RX2 34 RX0, Cond.instantiable RX0 4]
def wsL_texts_r3 : List Cond := [Cond.initialized RX0, Cond.fieldLink RX2 37 "HintedPages" "reader" "LHintedPages$Reader;", Cond.methodLink RX2 9 yX1_init, Cond.instanceMethod yX1_init, Cond.code yX1_init cX1_init 1 none, Cond.methodLink RX1 3 objectInit, Cond.fieldLink RX1 9 "HintedPages$Store" "placeOfPage" "[I", Cond.fieldLink RX1 15 "HintedPages$Store" "hintOfPage" "[I", Cond.fieldLink RX1 18 "HintedPages$Store" "writesOfPage" "[I", Cond.fieldLink RX1 21 "HintedPages$Store" "copiesOfPage" "[I", Cond.fieldLink RX1 24 "HintedPages$Store" "copiesSinceWrite" "[I", Cond.fieldLink RX1 27 "HintedPages$Store" "pageAt" "[I", Cond.fieldLink RX1 30 "HintedPages$Store" "streamOfBlock" "[I", Cond.fieldLink RX1 33 "HintedPages$Store" "programmedOfBlock" "[I", Cond.fieldLink RX1 36 "HintedPages$Store" "validOfBlock" "[I", Cond.fieldLink RX1 39 "HintedPages$Store" "erasuresOfBlock" "[I", Cond.fieldLink RX1 42 "HintedPages$Store" "closingOfBlock" "[I", Cond.fieldLink RX1 45 "HintedPages$Store" "openOfStream" "[I", Cond.fieldLink RX1 48 "HintedPages$Store" "programmedOfStream" "[I", Cond.fieldLink RX1 51 "HintedPages$Store" "copiesOfStream" "[I", Cond.fieldLink RX1 54 "HintedPages$Store" "settings" "[I", Cond.fieldLink RX1 57 "HintedPages$Store" "freeBlocks" "I", Cond.fieldLink RX1 61 "HintedPages$Store" "closings" "I", Cond.methodLink RX1 64 yJ7_fill_53178]
def wsL_texts_r4 : List Cond := [Cond.static yJ7_fill_53178, Cond.initialized RJ7, Cond.code yJ7_fill_53178 cJ7_fill_53178 4 none, Cond.instanceMethod yX0_init, Cond.code yX0_init cX0_init 1 none, Cond.methodLink RX0 3 objectInit, Cond.fieldLink RX0 11 "HintedPages$Reader" "behind" "I", Cond.fieldLink RX0 15 "HintedPages$Reader" "first" "I", Cond.fieldLink RX0 18 "HintedPages$Reader" "last" "I", Cond.fieldLink RX0 21 "HintedPages$Reader" "hint" "I", Cond.methodLink RL 113 yL_types, Cond.static yL_types, Cond.code yL_types cL_types 6 (some .boolean), Cond.constantLong RL 111 (255), Cond.methodLink RL 35 yX2_append, Cond.instanceMethod yX2_append, Cond.selects RX2 yX2_append yX2_append, Cond.code yX2_append cX2_append 2 (some .int), Cond.classLink RX2 52 "java/lang/IllegalArgumentException", Cond.initialized "java/lang/IllegalArgumentException", Cond.classLink RX2 78 "java/lang/IllegalStateException", Cond.initialized "java/lang/IllegalStateException", Cond.methodLink RL 117 yX2_firstError, Cond.instanceMethod yX2_firstError]
def wsL_texts_r5 : List Cond := [Cond.selects RX2 yX2_firstError yX2_firstError, Cond.code yX2_firstError cX2_firstError 1 (some .int), Cond.methodLink RX2 119 yX2_readBuffer, Cond.instanceMethod yX2_readBuffer, Cond.selects RX2 yX2_readBuffer yX2_readBuffer, Cond.code yX2_readBuffer cX2_readBuffer 2 (some .int), Cond.methodLink RX2 128 yX0_restart, Cond.instanceMethod yX0_restart, Cond.selects RX0 yX0_restart yX0_restart, Cond.code yX0_restart cX0_restart 1 none, Cond.methodLink RX2 131 yX0_accepts, Cond.instanceMethod yX0_accepts, Cond.selects RX0 yX0_accepts yX0_accepts, Cond.code yX0_accepts cX0_accepts 2 (some .boolean), Cond.methodLink RX0 24 yX0_acceptsDigit, Cond.instanceMethod yX0_acceptsDigit, Cond.selects RX0 yX0_acceptsDigit yX0_acceptsDigit, Cond.code yX0_acceptsDigit cX0_acceptsDigit 2 (some .boolean), Cond.methodLink RX0 28 yX0_goesOn, Cond.instanceMethod yX0_goesOn, Cond.selects RX0 yX0_goesOn yX0_goesOn, Cond.code yX0_goesOn cX0_goesOn 3 (some .boolean), Cond.methodLink RX0 36 yX0_acceptsFirst, Cond.instanceMethod yX0_acceptsFirst]
def wsL_texts_r6 : List Cond := [Cond.selects RX0 yX0_acceptsFirst yX0_acceptsFirst, Cond.code yX0_acceptsFirst cX0_acceptsFirst 2 (some .boolean), Cond.methodLink RX0 39 yX0_mayGrow, Cond.static yX0_mayGrow, Cond.code yX0_mayGrow cX0_mayGrow 1 (some .boolean), Cond.methodLink RX0 42 yX0_acceptsLast, Cond.instanceMethod yX0_acceptsLast, Cond.selects RX0 yX0_acceptsLast yX0_acceptsLast, Cond.code yX0_acceptsLast cX0_acceptsLast 3 (some .boolean), Cond.methodLink RX0 46 yX0_acceptsHint, Cond.instanceMethod yX0_acceptsHint, Cond.selects RX0 yX0_acceptsHint yX0_acceptsHint, Cond.code yX0_acceptsHint cX0_acceptsHint 2 (some .boolean), Cond.methodLink RX0 32 yX0_isPartWhole, Cond.instanceMethod yX0_isPartWhole, Cond.selects RX0 yX0_isPartWhole yX0_isPartWhole, Cond.code yX0_isPartWhole cX0_isPartWhole 1 (some .boolean), Cond.methodLink RL 89 yL_told, Cond.static yL_told, Cond.codeWith yL_told cL_told 6 (some .int) [(0, 9, 10, 79), (0, 9, 15, 81), (0, 9, 20, 83)], Cond.classLink RL 79 "java/lang/IndexOutOfBoundsException", Cond.classLink RL 81 "java/lang/IllegalArgumentException", Cond.classLink RL 83 "java/lang/IllegalStateException", Cond.methodLink RL 73 yL_call]
def wsL_texts_r7 : List Cond := [Cond.static yL_call, Cond.code yL_call cL_call 5 (some .int), Cond.methodLink RL 9 yX2_write, Cond.instanceMethod yX2_write, Cond.selects RX2 yX2_write yX2_write, Cond.code yX2_write cX2_write 3 (some .int), Cond.classLink RX2 45 "java/lang/IndexOutOfBoundsException", Cond.initialized "java/lang/IndexOutOfBoundsException", Cond.methodLink RX2 41 yX2_isIn, Cond.static yX2_isIn, Cond.code yX2_isIn cX2_isIn 2 (some .boolean), Cond.methodLink RX2 57 yX2_saveState, Cond.instanceMethod yX2_saveState, Cond.selects RX2 yX2_saveState yX2_saveState, Cond.code yX2_saveState cX2_saveState 1 none, Cond.methodLink RX2 221 yX2_dropOldest, Cond.instanceMethod yX2_dropOldest, Cond.selects RX2 yX2_dropOldest yX2_dropOldest, Cond.code yX2_dropOldest cX2_dropOldest 3 none, Cond.methodLink RX2 224 yX1_becomeLike, Cond.instanceMethod yX1_becomeLike, Cond.selects RX1 yX1_becomeLike yX1_becomeLike, Cond.code yX1_becomeLike cX1_becomeLike 2 none, Cond.methodLink RX1 70 yX1_copyRow]
def wsL_texts_r8 : List Cond := [Cond.static yX1_copyRow, Cond.code yX1_copyRow cX1_copyRow 2 none, Cond.methodLink RX1 74 Lib.Math.min.name, Cond.static Lib.Math.min.name, Cond.initialized "java/lang/Math", Cond.code Lib.Math.min.name Lib.Math.min.code 2 (some .int), Cond.methodLink RX1 80 arraycopyName, Cond.native arraycopyName, Cond.static arraycopyName, Cond.initialized "java/lang/System", Cond.methodLink RX2 60 yX1_writePages, Cond.instanceMethod yX1_writePages, Cond.selects RX1 yX1_writePages yX1_writePages, Cond.code yX1_writePages cX1_writePages 6 (some .int), Cond.methodLink RX1 86 yX1_copies, Cond.instanceMethod yX1_copies, Cond.selects RX1 yX1_copies yX1_copies, Cond.code yX1_copies cX1_copies 1 (some .int), Cond.methodLink RX1 90 yX1_writePage, Cond.instanceMethod yX1_writePage, Cond.selects RX1 yX1_writePage yX1_writePage, Cond.code yX1_writePage cX1_writePage 3 none, Cond.methodLink RX1 94 yX1_collectVictims, Cond.instanceMethod yX1_collectVictims]
def wsL_texts_r9 : List Cond := [Cond.selects RX1 yX1_collectVictims yX1_collectVictims, Cond.code yX1_collectVictims cX1_collectVictims 4 (some .int), Cond.constant RX1 105 (1000000), Cond.methodLink RX1 106 yX1_victim, Cond.instanceMethod yX1_victim, Cond.selects RX1 yX1_victim yX1_victim, Cond.code yX1_victim cX1_victim 5 (some .int), Cond.methodLink RX1 113 yX1_rankOf, Cond.instanceMethod yX1_rankOf, Cond.selects RX1 yX1_rankOf yX1_rankOf, Cond.code yX1_rankOf cX1_rankOf 2 (some .int), Cond.methodLink RX1 109 yX1_collectBlock, Cond.instanceMethod yX1_collectBlock, Cond.selects RX1 yX1_collectBlock yX1_collectBlock, Cond.code yX1_collectBlock cX1_collectBlock 4 none, Cond.methodLink RX1 116 yX1_validPageAt, Cond.instanceMethod yX1_validPageAt, Cond.selects RX1 yX1_validPageAt yX1_validPageAt, Cond.code yX1_validPageAt cX1_validPageAt 3 (some .int), Cond.methodLink RX1 98 yX1_openBlock, Cond.instanceMethod yX1_openBlock, Cond.selects RX1 yX1_openBlock yX1_openBlock, Cond.code yX1_openBlock cX1_openBlock 4 (some .int), Cond.methodLink RX1 101 yX1_program]
def wsL_texts_r10 : List Cond := [Cond.instanceMethod yX1_program, Cond.selects RX1 yX1_program yX1_program, Cond.code yX1_program cX1_program 6 none, Cond.methodLink RX1 119 yX1_erase, Cond.instanceMethod yX1_erase, Cond.selects RX1 yX1_erase yX1_erase, Cond.code yX1_erase cX1_erase 3 none, Cond.methodLink RL 15 yX2_writeRow, Cond.instanceMethod yX2_writeRow, Cond.selects RX2 yX2_writeRow yX2_writeRow, Cond.code yX2_writeRow cX2_writeRow 4 (some .int), Cond.methodLink RL 19 yX2_trim, Cond.instanceMethod yX2_trim, Cond.selects RX2 yX2_trim yX2_trim, Cond.code yX2_trim cX2_trim 3 (some .int), Cond.methodLink RX2 66 yX1_blockOf, Cond.instanceMethod yX1_blockOf, Cond.selects RX1 yX1_blockOf yX1_blockOf, Cond.code yX1_blockOf cX1_blockOf 2 (some .int), Cond.methodLink RX1 122 yX1_isWritten, Cond.instanceMethod yX1_isWritten, Cond.selects RX1 yX1_isWritten yX1_isWritten, Cond.code yX1_isWritten cX1_isWritten 2 (some .boolean), Cond.methodLink RX2 70 yX1_forget]
def wsL_texts_r11 : List Cond := [Cond.instanceMethod yX1_forget, Cond.selects RX1 yX1_forget yX1_forget, Cond.code yX1_forget cX1_forget 3 none, Cond.methodLink RL 23 yX2_hint, Cond.instanceMethod yX2_hint, Cond.selects RX2 yX2_hint yX2_hint, Cond.code yX2_hint cX2_hint 4 (some .int), Cond.fieldLink RX2 83 "HintedPages$Store" "hintOfPage" "[I", Cond.methodLink RX2 74 yX1_isWritten, Cond.methodLink RL 26 yX2_collect, Cond.instanceMethod yX2_collect, Cond.selects RX2 yX2_collect yX2_collect, Cond.code yX2_collect cX2_collect 3 (some .int), Cond.methodLink RX2 88 yX1_stateOf, Cond.instanceMethod yX1_stateOf, Cond.selects RX1 yX1_stateOf yX1_stateOf, Cond.code yX1_stateOf cX1_stateOf 2 (some .int), Cond.methodLink RX2 93 yX1_copies, Cond.methodLink RX2 97 yX1_collectBlock, Cond.methodLink RL 29 yX2_tidy, Cond.instanceMethod yX2_tidy, Cond.selects RX2 yX2_tidy yX2_tidy, Cond.code yX2_tidy cX2_tidy 2 (some .int), Cond.methodLink RX2 102 yX1_collectVictims]
def wsL_texts_r12 : List Cond := [Cond.methodLink RL 32 yX2_set, Cond.instanceMethod yX2_set, Cond.selects RX2 yX2_set yX2_set, Cond.code yX2_set cX2_set 4 (some .int), Cond.fieldLink RX2 112 "HintedPages$Store" "settings" "[I", Cond.methodLink RX2 107 yX2_isSettingValue, Cond.static yX2_isSettingValue, Cond.code yX2_isSettingValue cX2_isSettingValue 2 (some .boolean), Cond.methodLink RL 38 yX2_writeAll, Cond.instanceMethod yX2_writeAll, Cond.selects RX2 yX2_writeAll yX2_writeAll, Cond.code yX2_writeAll cX2_writeAll 3 (some .int), Cond.fieldLink RX2 134 "HintedPages$Reader" "first" "I", Cond.fieldLink RX2 137 "HintedPages$Reader" "last" "I", Cond.fieldLink RX2 140 "HintedPages$Reader" "hint" "I", Cond.methodLink RX2 122 yX0_isPartWhole, Cond.methodLink RL 42 yX2_undo, Cond.instanceMethod yX2_undo, Cond.selects RX2 yX2_undo yX2_undo, Cond.code yX2_undo cX2_undo 2 (some .int), Cond.methodLink RL 45 yX2_page, Cond.instanceMethod yX2_page, Cond.selects RX2 yX2_page yX2_page, Cond.code yX2_page cX2_page 3 (some .int)]
def wsL_texts_r13 : List Cond := [Cond.methodLink RX2 147 yX1_pageProperty, Cond.instanceMethod yX1_pageProperty, Cond.selects RX1 yX1_pageProperty yX1_pageProperty, Cond.code yX1_pageProperty cX1_pageProperty 3 (some .int), Cond.methodLink RX1 126 yX1_blockOf, Cond.methodLink RL 48 yX2_block, Cond.instanceMethod yX2_block, Cond.selects RX2 yX2_block yX2_block, Cond.code yX2_block cX2_block 3 (some .int), Cond.methodLink RX2 151 yX1_blockProperty, Cond.instanceMethod yX1_blockProperty, Cond.selects RX1 yX1_blockProperty yX1_blockProperty, Cond.code yX1_blockProperty cX1_blockProperty 3 (some .int), Cond.methodLink RX1 129 yX1_stateOf, Cond.methodLink RX1 132 yX1_closedAheadOf, Cond.instanceMethod yX1_closedAheadOf, Cond.selects RX1 yX1_closedAheadOf yX1_closedAheadOf, Cond.code yX1_closedAheadOf cX1_closedAheadOf 4 (some .int), Cond.methodLink RX1 135 yX1_unlikeHintsOf, Cond.instanceMethod yX1_unlikeHintsOf, Cond.selects RX1 yX1_unlikeHintsOf yX1_unlikeHintsOf, Cond.code yX1_unlikeHintsOf cX1_unlikeHintsOf 5 (some .int), Cond.methodLink RX1 138 yJ6_bitCount_0f7a4, Cond.static yJ6_bitCount_0f7a4]
def wsL_texts_r14 : List Cond := [Cond.initialized RJ6, Cond.code yJ6_bitCount_0f7a4 cJ6_bitCount_0f7a4 1 (some .int), Cond.constant RJ6 265 (1431655765), Cond.constant RJ6 266 (858993459), Cond.constant RJ6 267 (252645135), Cond.methodLink RL 51 yX2_slot, Cond.instanceMethod yX2_slot, Cond.selects RX2 yX2_slot yX2_slot, Cond.code yX2_slot cX2_slot 5 (some .int), Cond.fieldLink RX2 159 "HintedPages$Store" "pageAt" "[I", Cond.methodLink RX2 156 yX1_validPageAt, Cond.methodLink RL 55 yX2_stream, Cond.instanceMethod yX2_stream, Cond.selects RX2 yX2_stream yX2_stream, Cond.code yX2_stream cX2_stream 3 (some .int), Cond.methodLink RX2 164 yX1_streamProperty, Cond.instanceMethod yX1_streamProperty, Cond.selects RX1 yX1_streamProperty yX1_streamProperty, Cond.code yX1_streamProperty cX1_streamProperty 3 (some .int), Cond.methodLink RX1 143 yX1_pagesWithHint, Cond.instanceMethod yX1_pagesWithHint, Cond.selects RX1 yX1_pagesWithHint yX1_pagesWithHint, Cond.code yX1_pagesWithHint cX1_pagesWithHint 4 (some .int), Cond.methodLink RX1 146 yX1_percentOf]
def wsL_texts_r15 : List Cond := [Cond.instanceMethod yX1_percentOf, Cond.selects RX1 yX1_percentOf yX1_percentOf, Cond.code yX1_percentOf cX1_percentOf 3 (some .int), Cond.methodLink RL 58 yX2_count, Cond.instanceMethod yX2_count, Cond.selects RX2 yX2_count yX2_count, Cond.code yX2_count cX2_count 2 (some .int), Cond.methodLink RX2 167 yX1_total, Cond.instanceMethod yX1_total, Cond.selects RX1 yX1_total yX1_total, Cond.code yX1_total cX1_total 2 (some .int), Cond.methodLink RX1 149 yX1_sum, Cond.static yX1_sum, Cond.code yX1_sum cX1_sum 6 (some .int), Cond.methodLink RX1 153 yX1_openBlocks, Cond.instanceMethod yX1_openBlocks, Cond.selects RX1 yX1_openBlocks yX1_openBlocks, Cond.code yX1_openBlocks cX1_openBlocks 3 (some .int), Cond.methodLink RX1 156 yX1_writes, Cond.instanceMethod yX1_writes, Cond.selects RX1 yX1_writes yX1_writes, Cond.code yX1_writes cX1_writes 1 (some .int), Cond.methodLink RX1 159 yX1_erasures, Cond.instanceMethod yX1_erasures]
def wsL_texts_r16 : List Cond := [Cond.selects RX1 yX1_erasures yX1_erasures, Cond.code yX1_erasures cX1_erasures 1 (some .int), Cond.methodLink RX1 162 yX1_spreadOfErasures, Cond.instanceMethod yX1_spreadOfErasures, Cond.selects RX1 yX1_spreadOfErasures yX1_spreadOfErasures, Cond.code yX1_spreadOfErasures cX1_spreadOfErasures 4 (some .int), Cond.methodLink RX1 165 Lib.Math.max.name, Cond.static Lib.Math.max.name, Cond.code Lib.Math.max.name Lib.Math.max.code 2 (some .int), Cond.methodLink RL 61 yX2_setting, Cond.instanceMethod yX2_setting, Cond.selects RX2 yX2_setting yX2_setting, Cond.code yX2_setting cX2_setting 2 (some .int), Cond.methodLink RL 64 yX2_ifWritten, Cond.instanceMethod yX2_ifWritten, Cond.selects RX2 yX2_ifWritten yX2_ifWritten, Cond.code yX2_ifWritten cX2_ifWritten 4 (some .int), Cond.methodLink RX2 170 yX2_tryWriting, Cond.instanceMethod yX2_tryWriting, Cond.selects RX2 yX2_tryWriting yX2_tryWriting, Cond.code yX2_tryWriting cX2_tryWriting 3 none, Cond.methodLink RX2 228 yX1_writePage, Cond.methodLink RX2 174 yX2_forecast, Cond.instanceMethod yX2_forecast]
def wsL_texts_r17 : List Cond := [Cond.selects RX2 yX2_forecast yX2_forecast, Cond.code yX2_forecast cX2_forecast 3 (some .int), Cond.methodLink RX2 231 yX1_erasures, Cond.methodLink RL 67 yX2_ifRewritten, Cond.instanceMethod yX2_ifRewritten, Cond.selects RX2 yX2_ifRewritten yX2_ifRewritten, Cond.code yX2_ifRewritten cX2_ifRewritten 2 (some .int), Cond.methodLink RX2 179 yX2_copiesOfRewriting, Cond.instanceMethod yX2_copiesOfRewriting, Cond.selects RX2 yX2_copiesOfRewriting yX2_copiesOfRewriting, Cond.code yX2_copiesOfRewriting cX2_copiesOfRewriting 5 (some .int), Cond.methodLink RL 70 yX2_bestRule, Cond.instanceMethod yX2_bestRule, Cond.selects RX2 yX2_bestRule yX2_bestRule, Cond.code yX2_bestRule cX2_bestRule 6 (some .int), Cond.methodLink RL 170 yX2_clearBuffer, Cond.instanceMethod yX2_clearBuffer, Cond.selects RX2 yX2_clearBuffer yX2_clearBuffer, Cond.code yX2_clearBuffer cX2_clearBuffer 2 (some .int)]
def wsL_texts : List Cond := .code yL_texts cL_texts 2 (some .boolean) :: ((wsL_texts_r1 ++ (wsL_texts_r2 ++ (wsL_texts_r3 ++ (wsL_texts_r4 ++ (wsL_texts_r5 ++ (wsL_texts_r6 ++ (wsL_texts_r7 ++ (wsL_texts_r8 ++ (wsL_texts_r9 ++ (wsL_texts_r10 ++ (wsL_texts_r11 ++ (wsL_texts_r12 ++ (wsL_texts_r13 ++ (wsL_texts_r14 ++ (wsL_texts_r15 ++ (wsL_texts_r16 ++ wsL_texts_r17)))))))))))))))) ++ wsX20 ++ wsX10 ++ wsX00 ++ (vx_atS RX2 56 "java/lang/IllegalArgumentException" ["java/lang/RuntimeException", "java/lang/Exception"]).filter goodWord ++ (vx_atS RX2 82 "java/lang/IllegalStateException" ["java/lang/RuntimeException", "java/lang/Exception"]).filter goodWord ++ (vx_atS RX2 49 "java/lang/IndexOutOfBoundsException" ["java/lang/RuntimeException", "java/lang/Exception"]).filter goodWord)
def wsL_law0_r1 : List Cond := [Cond.classLink RL 10 RX2, Cond.instantiable RX2 7, Cond.initialized RX2, Cond.arrayClass .long, Cond.methodLink RL 173 yL_pages, Cond.static yL_pages, Cond.initialized RL, Cond.code yL_pages cL_pages 2 (some .boolean), Cond.constantDouble RL 105 (4610334938539176755), Cond.methodLink RL 100 yX2_init, Cond.instanceMethod yX2_init, Cond.code yX2_init cX2_init 2 none, Cond.methodLink RX2 1 objectInit, Cond.instanceMethod objectInit, Cond.code objectInit ⟨#[0xb1]⟩ 1 none, Cond.classLink RX2 7 RX1, Cond.instantiable RX1 17, Cond.initialized RX1, Cond.fieldLink RX2 10 "HintedPages" "store" "LHintedPages$Store;", Cond.fieldLink RX2 16 "HintedPages" "trial" "LHintedPages$Store;", Cond.fieldLink RX2 19 "HintedPages" "saved" "[LHintedPages$Store;", Cond.fieldLink RX2 23 "HintedPages" "savedStates" "I", Cond.arrayClass .int, Cond.fieldLink RX2 27 "HintedPages" "codes" "[I"]
def wsL_law0_r2 : List Cond := [Cond.fieldLink RX2 31 "HintedPages" "length" "I", Cond.classLink RX2 34 RX0, Cond.instantiable RX0 4, Cond.initialized RX0, Cond.fieldLink RX2 37 "HintedPages" "reader" "LHintedPages$Reader;", Cond.methodLink RX2 9 yX1_init, Cond.instanceMethod yX1_init, Cond.code yX1_init cX1_init 1 none, Cond.methodLink RX1 3 objectInit, Cond.fieldLink RX1 9 "HintedPages$Store" "placeOfPage" "[I", Cond.fieldLink RX1 15 "HintedPages$Store" "hintOfPage" "[I", Cond.fieldLink RX1 18 "HintedPages$Store" "writesOfPage" "[I", Cond.fieldLink RX1 21 "HintedPages$Store" "copiesOfPage" "[I", Cond.fieldLink RX1 24 "HintedPages$Store" "copiesSinceWrite" "[I", Cond.fieldLink RX1 27 "HintedPages$Store" "pageAt" "[I", Cond.fieldLink RX1 30 "HintedPages$Store" "streamOfBlock" "[I", Cond.fieldLink RX1 33 "HintedPages$Store" "programmedOfBlock" "[I", Cond.fieldLink RX1 36 "HintedPages$Store" "validOfBlock" "[I", Cond.fieldLink RX1 39 "HintedPages$Store" "erasuresOfBlock" "[I", Cond.fieldLink RX1 42 "HintedPages$Store" "closingOfBlock" "[I", Cond.fieldLink RX1 45 "HintedPages$Store" "openOfStream" "[I", Cond.fieldLink RX1 48 "HintedPages$Store" "programmedOfStream" "[I", Cond.fieldLink RX1 51 "HintedPages$Store" "copiesOfStream" "[I", Cond.fieldLink RX1 54 "HintedPages$Store" "settings" "[I"]
def wsL_law0_r3 : List Cond := [Cond.fieldLink RX1 57 "HintedPages$Store" "freeBlocks" "I", Cond.fieldLink RX1 61 "HintedPages$Store" "closings" "I", Cond.methodLink RX1 64 yJ7_fill_53178, Cond.static yJ7_fill_53178, Cond.initialized RJ7, Cond.code yJ7_fill_53178 cJ7_fill_53178 4 none, Cond.instanceMethod yX0_init, Cond.code yX0_init cX0_init 1 none, Cond.methodLink RX0 3 objectInit, Cond.fieldLink RX0 11 "HintedPages$Reader" "behind" "I", Cond.fieldLink RX0 15 "HintedPages$Reader" "first" "I", Cond.fieldLink RX0 18 "HintedPages$Reader" "last" "I", Cond.fieldLink RX0 21 "HintedPages$Reader" "hint" "I", Cond.methodLink RL 89 yL_told, Cond.static yL_told, Cond.codeWith yL_told cL_told 6 (some .int) [(0, 9, 10, 79), (0, 9, 15, 81), (0, 9, 20, 83)], Cond.classLink RL 79 "java/lang/IndexOutOfBoundsException", Cond.classLink RL 81 "java/lang/IllegalArgumentException", Cond.classLink RL 83 "java/lang/IllegalStateException", Cond.methodLink RL 73 yL_call, Cond.static yL_call, Cond.code yL_call cL_call 5 (some .int), Cond.methodLink RL 9 yX2_write, Cond.instanceMethod yX2_write]
def wsL_law0_r4 : List Cond := [Cond.selects RX2 yX2_write yX2_write, Cond.code yX2_write cX2_write 3 (some .int), Cond.classLink RX2 45 "java/lang/IndexOutOfBoundsException", Cond.initialized "java/lang/IndexOutOfBoundsException", Cond.classLink RX2 52 "java/lang/IllegalArgumentException", Cond.initialized "java/lang/IllegalArgumentException", Cond.methodLink RX2 41 yX2_isIn, Cond.static yX2_isIn, Cond.code yX2_isIn cX2_isIn 2 (some .boolean), Cond.methodLink RX2 57 yX2_saveState, Cond.instanceMethod yX2_saveState, Cond.selects RX2 yX2_saveState yX2_saveState, Cond.code yX2_saveState cX2_saveState 1 none, Cond.methodLink RX2 221 yX2_dropOldest, Cond.instanceMethod yX2_dropOldest, Cond.selects RX2 yX2_dropOldest yX2_dropOldest, Cond.code yX2_dropOldest cX2_dropOldest 3 none, Cond.methodLink RX2 224 yX1_becomeLike, Cond.instanceMethod yX1_becomeLike, Cond.selects RX1 yX1_becomeLike yX1_becomeLike, Cond.code yX1_becomeLike cX1_becomeLike 2 none, Cond.methodLink RX1 70 yX1_copyRow, Cond.static yX1_copyRow, Cond.code yX1_copyRow cX1_copyRow 2 none]
def wsL_law0_r5 : List Cond := [Cond.methodLink RX1 74 Lib.Math.min.name, Cond.static Lib.Math.min.name, Cond.initialized "java/lang/Math", Cond.code Lib.Math.min.name Lib.Math.min.code 2 (some .int), Cond.methodLink RX1 80 arraycopyName, Cond.native arraycopyName, Cond.static arraycopyName, Cond.initialized "java/lang/System", Cond.methodLink RX2 60 yX1_writePages, Cond.instanceMethod yX1_writePages, Cond.selects RX1 yX1_writePages yX1_writePages, Cond.code yX1_writePages cX1_writePages 6 (some .int), Cond.methodLink RX1 86 yX1_copies, Cond.instanceMethod yX1_copies, Cond.selects RX1 yX1_copies yX1_copies, Cond.code yX1_copies cX1_copies 1 (some .int), Cond.methodLink RX1 90 yX1_writePage, Cond.instanceMethod yX1_writePage, Cond.selects RX1 yX1_writePage yX1_writePage, Cond.code yX1_writePage cX1_writePage 3 none, Cond.methodLink RX1 94 yX1_collectVictims, Cond.instanceMethod yX1_collectVictims, Cond.selects RX1 yX1_collectVictims yX1_collectVictims, Cond.code yX1_collectVictims cX1_collectVictims 4 (some .int)]
def wsL_law0_r6 : List Cond := [Cond.constant RX1 105 (1000000), Cond.methodLink RX1 106 yX1_victim, Cond.instanceMethod yX1_victim, Cond.selects RX1 yX1_victim yX1_victim, Cond.code yX1_victim cX1_victim 5 (some .int), Cond.methodLink RX1 113 yX1_rankOf, Cond.instanceMethod yX1_rankOf, Cond.selects RX1 yX1_rankOf yX1_rankOf, Cond.code yX1_rankOf cX1_rankOf 2 (some .int), Cond.methodLink RX1 109 yX1_collectBlock, Cond.instanceMethod yX1_collectBlock, Cond.selects RX1 yX1_collectBlock yX1_collectBlock, Cond.code yX1_collectBlock cX1_collectBlock 4 none, Cond.methodLink RX1 116 yX1_validPageAt, Cond.instanceMethod yX1_validPageAt, Cond.selects RX1 yX1_validPageAt yX1_validPageAt, Cond.code yX1_validPageAt cX1_validPageAt 3 (some .int), Cond.methodLink RX1 98 yX1_openBlock, Cond.instanceMethod yX1_openBlock, Cond.selects RX1 yX1_openBlock yX1_openBlock, Cond.code yX1_openBlock cX1_openBlock 4 (some .int), Cond.methodLink RX1 101 yX1_program, Cond.instanceMethod yX1_program, Cond.selects RX1 yX1_program yX1_program]
def wsL_law0_r7 : List Cond := [Cond.code yX1_program cX1_program 6 none, Cond.methodLink RX1 119 yX1_erase, Cond.instanceMethod yX1_erase, Cond.selects RX1 yX1_erase yX1_erase, Cond.code yX1_erase cX1_erase 3 none, Cond.methodLink RL 15 yX2_writeRow, Cond.instanceMethod yX2_writeRow, Cond.selects RX2 yX2_writeRow yX2_writeRow, Cond.code yX2_writeRow cX2_writeRow 4 (some .int), Cond.methodLink RL 19 yX2_trim, Cond.instanceMethod yX2_trim, Cond.selects RX2 yX2_trim yX2_trim, Cond.code yX2_trim cX2_trim 3 (some .int), Cond.methodLink RX2 66 yX1_blockOf, Cond.instanceMethod yX1_blockOf, Cond.selects RX1 yX1_blockOf yX1_blockOf, Cond.code yX1_blockOf cX1_blockOf 2 (some .int), Cond.methodLink RX1 122 yX1_isWritten, Cond.instanceMethod yX1_isWritten, Cond.selects RX1 yX1_isWritten yX1_isWritten, Cond.code yX1_isWritten cX1_isWritten 2 (some .boolean), Cond.methodLink RX2 70 yX1_forget, Cond.instanceMethod yX1_forget, Cond.selects RX1 yX1_forget yX1_forget]
def wsL_law0_r8 : List Cond := [Cond.code yX1_forget cX1_forget 3 none, Cond.methodLink RL 23 yX2_hint, Cond.instanceMethod yX2_hint, Cond.selects RX2 yX2_hint yX2_hint, Cond.code yX2_hint cX2_hint 4 (some .int), Cond.classLink RX2 78 "java/lang/IllegalStateException", Cond.initialized "java/lang/IllegalStateException", Cond.fieldLink RX2 83 "HintedPages$Store" "hintOfPage" "[I", Cond.methodLink RX2 74 yX1_isWritten, Cond.methodLink RL 26 yX2_collect, Cond.instanceMethod yX2_collect, Cond.selects RX2 yX2_collect yX2_collect, Cond.code yX2_collect cX2_collect 3 (some .int), Cond.methodLink RX2 88 yX1_stateOf, Cond.instanceMethod yX1_stateOf, Cond.selects RX1 yX1_stateOf yX1_stateOf, Cond.code yX1_stateOf cX1_stateOf 2 (some .int), Cond.methodLink RX2 93 yX1_copies, Cond.methodLink RX2 97 yX1_collectBlock, Cond.methodLink RL 29 yX2_tidy, Cond.instanceMethod yX2_tidy, Cond.selects RX2 yX2_tidy yX2_tidy, Cond.code yX2_tidy cX2_tidy 2 (some .int), Cond.methodLink RX2 102 yX1_collectVictims]
def wsL_law0_r9 : List Cond := [Cond.methodLink RL 32 yX2_set, Cond.instanceMethod yX2_set, Cond.selects RX2 yX2_set yX2_set, Cond.code yX2_set cX2_set 4 (some .int), Cond.fieldLink RX2 112 "HintedPages$Store" "settings" "[I", Cond.methodLink RX2 107 yX2_isSettingValue, Cond.static yX2_isSettingValue, Cond.code yX2_isSettingValue cX2_isSettingValue 2 (some .boolean), Cond.methodLink RL 35 yX2_append, Cond.instanceMethod yX2_append, Cond.selects RX2 yX2_append yX2_append, Cond.code yX2_append cX2_append 2 (some .int), Cond.methodLink RL 38 yX2_writeAll, Cond.instanceMethod yX2_writeAll, Cond.selects RX2 yX2_writeAll yX2_writeAll, Cond.code yX2_writeAll cX2_writeAll 3 (some .int), Cond.fieldLink RX2 134 "HintedPages$Reader" "first" "I", Cond.fieldLink RX2 137 "HintedPages$Reader" "last" "I", Cond.fieldLink RX2 140 "HintedPages$Reader" "hint" "I", Cond.methodLink RX2 119 yX2_readBuffer, Cond.instanceMethod yX2_readBuffer, Cond.selects RX2 yX2_readBuffer yX2_readBuffer, Cond.code yX2_readBuffer cX2_readBuffer 2 (some .int), Cond.methodLink RX2 128 yX0_restart]
def wsL_law0_r10 : List Cond := [Cond.instanceMethod yX0_restart, Cond.selects RX0 yX0_restart yX0_restart, Cond.code yX0_restart cX0_restart 1 none, Cond.methodLink RX2 131 yX0_accepts, Cond.instanceMethod yX0_accepts, Cond.selects RX0 yX0_accepts yX0_accepts, Cond.code yX0_accepts cX0_accepts 2 (some .boolean), Cond.methodLink RX0 24 yX0_acceptsDigit, Cond.instanceMethod yX0_acceptsDigit, Cond.selects RX0 yX0_acceptsDigit yX0_acceptsDigit, Cond.code yX0_acceptsDigit cX0_acceptsDigit 2 (some .boolean), Cond.methodLink RX0 28 yX0_goesOn, Cond.instanceMethod yX0_goesOn, Cond.selects RX0 yX0_goesOn yX0_goesOn, Cond.code yX0_goesOn cX0_goesOn 3 (some .boolean), Cond.methodLink RX0 36 yX0_acceptsFirst, Cond.instanceMethod yX0_acceptsFirst, Cond.selects RX0 yX0_acceptsFirst yX0_acceptsFirst, Cond.code yX0_acceptsFirst cX0_acceptsFirst 2 (some .boolean), Cond.methodLink RX0 39 yX0_mayGrow, Cond.static yX0_mayGrow, Cond.code yX0_mayGrow cX0_mayGrow 1 (some .boolean), Cond.methodLink RX0 42 yX0_acceptsLast, Cond.instanceMethod yX0_acceptsLast]
def wsL_law0_r11 : List Cond := [Cond.selects RX0 yX0_acceptsLast yX0_acceptsLast, Cond.code yX0_acceptsLast cX0_acceptsLast 3 (some .boolean), Cond.methodLink RX0 46 yX0_acceptsHint, Cond.instanceMethod yX0_acceptsHint, Cond.selects RX0 yX0_acceptsHint yX0_acceptsHint, Cond.code yX0_acceptsHint cX0_acceptsHint 2 (some .boolean), Cond.methodLink RX0 32 yX0_isPartWhole, Cond.instanceMethod yX0_isPartWhole, Cond.selects RX0 yX0_isPartWhole yX0_isPartWhole, Cond.code yX0_isPartWhole cX0_isPartWhole 1 (some .boolean), Cond.methodLink RX2 122 yX0_isPartWhole, Cond.methodLink RL 42 yX2_undo, Cond.instanceMethod yX2_undo, Cond.selects RX2 yX2_undo yX2_undo, Cond.code yX2_undo cX2_undo 2 (some .int), Cond.methodLink RL 45 yX2_page, Cond.instanceMethod yX2_page, Cond.selects RX2 yX2_page yX2_page, Cond.code yX2_page cX2_page 3 (some .int), Cond.methodLink RX2 147 yX1_pageProperty, Cond.instanceMethod yX1_pageProperty, Cond.selects RX1 yX1_pageProperty yX1_pageProperty, Cond.code yX1_pageProperty cX1_pageProperty 3 (some .int), Cond.methodLink RX1 126 yX1_blockOf]
def wsL_law0_r12 : List Cond := [Cond.methodLink RL 48 yX2_block, Cond.instanceMethod yX2_block, Cond.selects RX2 yX2_block yX2_block, Cond.code yX2_block cX2_block 3 (some .int), Cond.methodLink RX2 151 yX1_blockProperty, Cond.instanceMethod yX1_blockProperty, Cond.selects RX1 yX1_blockProperty yX1_blockProperty, Cond.code yX1_blockProperty cX1_blockProperty 3 (some .int), Cond.methodLink RX1 129 yX1_stateOf, Cond.methodLink RX1 132 yX1_closedAheadOf, Cond.instanceMethod yX1_closedAheadOf, Cond.selects RX1 yX1_closedAheadOf yX1_closedAheadOf, Cond.code yX1_closedAheadOf cX1_closedAheadOf 4 (some .int), Cond.methodLink RX1 135 yX1_unlikeHintsOf, Cond.instanceMethod yX1_unlikeHintsOf, Cond.selects RX1 yX1_unlikeHintsOf yX1_unlikeHintsOf, Cond.code yX1_unlikeHintsOf cX1_unlikeHintsOf 5 (some .int), Cond.methodLink RX1 138 yJ6_bitCount_0f7a4, Cond.static yJ6_bitCount_0f7a4, Cond.initialized RJ6, Cond.code yJ6_bitCount_0f7a4 cJ6_bitCount_0f7a4 1 (some .int), Cond.constant RJ6 265 (1431655765), Cond.constant RJ6 266 (858993459), Cond.constant RJ6 267 (252645135)]
def wsL_law0_r13 : List Cond := [Cond.methodLink RL 51 yX2_slot, Cond.instanceMethod yX2_slot, Cond.selects RX2 yX2_slot yX2_slot, Cond.code yX2_slot cX2_slot 5 (some .int), Cond.fieldLink RX2 159 "HintedPages$Store" "pageAt" "[I", Cond.methodLink RX2 156 yX1_validPageAt, Cond.methodLink RL 55 yX2_stream, Cond.instanceMethod yX2_stream, Cond.selects RX2 yX2_stream yX2_stream, Cond.code yX2_stream cX2_stream 3 (some .int), Cond.methodLink RX2 164 yX1_streamProperty, Cond.instanceMethod yX1_streamProperty, Cond.selects RX1 yX1_streamProperty yX1_streamProperty, Cond.code yX1_streamProperty cX1_streamProperty 3 (some .int), Cond.methodLink RX1 143 yX1_pagesWithHint, Cond.instanceMethod yX1_pagesWithHint, Cond.selects RX1 yX1_pagesWithHint yX1_pagesWithHint, Cond.code yX1_pagesWithHint cX1_pagesWithHint 4 (some .int), Cond.methodLink RX1 146 yX1_percentOf, Cond.instanceMethod yX1_percentOf, Cond.selects RX1 yX1_percentOf yX1_percentOf, Cond.code yX1_percentOf cX1_percentOf 3 (some .int), Cond.methodLink RL 58 yX2_count, Cond.instanceMethod yX2_count]
def wsL_law0_r14 : List Cond := [Cond.selects RX2 yX2_count yX2_count, Cond.code yX2_count cX2_count 2 (some .int), Cond.methodLink RX2 167 yX1_total, Cond.instanceMethod yX1_total, Cond.selects RX1 yX1_total yX1_total, Cond.code yX1_total cX1_total 2 (some .int), Cond.methodLink RX1 149 yX1_sum, Cond.static yX1_sum, Cond.code yX1_sum cX1_sum 6 (some .int), Cond.methodLink RX1 153 yX1_openBlocks, Cond.instanceMethod yX1_openBlocks, Cond.selects RX1 yX1_openBlocks yX1_openBlocks, Cond.code yX1_openBlocks cX1_openBlocks 3 (some .int), Cond.methodLink RX1 156 yX1_writes, Cond.instanceMethod yX1_writes, Cond.selects RX1 yX1_writes yX1_writes, Cond.code yX1_writes cX1_writes 1 (some .int), Cond.methodLink RX1 159 yX1_erasures, Cond.instanceMethod yX1_erasures, Cond.selects RX1 yX1_erasures yX1_erasures, Cond.code yX1_erasures cX1_erasures 1 (some .int), Cond.methodLink RX1 162 yX1_spreadOfErasures, Cond.instanceMethod yX1_spreadOfErasures, Cond.selects RX1 yX1_spreadOfErasures yX1_spreadOfErasures]
def wsL_law0_r15 : List Cond := [Cond.code yX1_spreadOfErasures cX1_spreadOfErasures 4 (some .int), Cond.methodLink RX1 165 Lib.Math.max.name, Cond.static Lib.Math.max.name, Cond.code Lib.Math.max.name Lib.Math.max.code 2 (some .int), Cond.methodLink RL 61 yX2_setting, Cond.instanceMethod yX2_setting, Cond.selects RX2 yX2_setting yX2_setting, Cond.code yX2_setting cX2_setting 2 (some .int), Cond.methodLink RL 64 yX2_ifWritten, Cond.instanceMethod yX2_ifWritten, Cond.selects RX2 yX2_ifWritten yX2_ifWritten, Cond.code yX2_ifWritten cX2_ifWritten 4 (some .int), Cond.methodLink RX2 170 yX2_tryWriting, Cond.instanceMethod yX2_tryWriting, Cond.selects RX2 yX2_tryWriting yX2_tryWriting, Cond.code yX2_tryWriting cX2_tryWriting 3 none, Cond.methodLink RX2 228 yX1_writePage, Cond.methodLink RX2 174 yX2_forecast, Cond.instanceMethod yX2_forecast, Cond.selects RX2 yX2_forecast yX2_forecast, Cond.code yX2_forecast cX2_forecast 3 (some .int), Cond.methodLink RX2 231 yX1_erasures, Cond.methodLink RL 67 yX2_ifRewritten, Cond.instanceMethod yX2_ifRewritten]
def wsL_law0_r16 : List Cond := [Cond.selects RX2 yX2_ifRewritten yX2_ifRewritten, Cond.code yX2_ifRewritten cX2_ifRewritten 2 (some .int), Cond.methodLink RX2 179 yX2_copiesOfRewriting, Cond.instanceMethod yX2_copiesOfRewriting, Cond.selects RX2 yX2_copiesOfRewriting yX2_copiesOfRewriting, Cond.code yX2_copiesOfRewriting cX2_copiesOfRewriting 5 (some .int), Cond.methodLink RL 70 yX2_bestRule, Cond.instanceMethod yX2_bestRule, Cond.selects RX2 yX2_bestRule yX2_bestRule, Cond.code yX2_bestRule cX2_bestRule 6 (some .int), Cond.methodLink RL 101 yX2_amplification, Cond.instanceMethod yX2_amplification, Cond.selects RX2 yX2_amplification yX2_amplification, Cond.code yX2_amplification cX2_amplification 2 (some .double), Cond.methodLink RX2 182 yX1_writes, Cond.methodLink RL 107 yL_refused, Cond.static yL_refused, Cond.code yL_refused cL_refused 4 (some .boolean), Cond.methodLink RL 92 yL_seen, Cond.static yL_seen, Cond.code yL_seen cL_seen 4 (some .long), Cond.constantLong RL 85 (7), Cond.constantLong RL 87 (31), Cond.methodLink RL 96 yL_refusesAny]
def wsL_law0_r17 : List Cond := [Cond.static yL_refusesAny, Cond.code yL_refusesAny cL_refusesAny 5 (some .boolean), Cond.methodLink RL 177 yL_texts, Cond.static yL_texts, Cond.code yL_texts cL_texts 2 (some .boolean), Cond.constantLong RL 124 (3356973), Cond.constantLong RL 126 (3484981), Cond.constantLong RL 128 (3484976), Cond.constantLong RL 130 (3484982), Cond.constantLong RL 132 (842018097), Cond.constantLong RL 134 (215556633147), Cond.constantLong RL 136 (215556633136), Cond.constantLong RL 138 (842018098), Cond.constantLong RL 140 (215556633137), Cond.constantLong RL 142 (892154171), Cond.constantLong RL 144 (3484977), Cond.constantLong RL 146 (58468215056436), Cond.constantLong RL 148 (3500083), Cond.constantLong RL 150 (12343), Cond.constantLong RL 152 (13360), Cond.constantLong RL 154 (52970691061811), Cond.constantLong RL 156 (862466363), Cond.constantLong RL 158 (892154216), Cond.constantLong RL 160 (104)]
def wsL_law0_r18 : List Cond := [Cond.constantLong RL 162 (858600552), Cond.constantLong RL 164 (56316369516845), Cond.constantLong RL 166 (3471487410368098875), Cond.constantLong RL 168 (48), Cond.methodLink RL 120 yL_errorOf, Cond.static yL_errorOf, Cond.code yL_errorOf cL_errorOf 3 (some .int), Cond.methodLink RL 113 yL_types, Cond.static yL_types, Cond.code yL_types cL_types 6 (some .boolean), Cond.constantLong RL 111 (255), Cond.methodLink RL 117 yX2_firstError, Cond.instanceMethod yX2_firstError, Cond.selects RX2 yX2_firstError yX2_firstError, Cond.code yX2_firstError cX2_firstError 1 (some .int), Cond.methodLink RL 170 yX2_clearBuffer, Cond.instanceMethod yX2_clearBuffer, Cond.selects RX2 yX2_clearBuffer yX2_clearBuffer, Cond.code yX2_clearBuffer cX2_clearBuffer 2 (some .int), Cond.methodLink RL 180 yL_drawn, Cond.static yL_drawn, Cond.code yL_drawn cL_drawn 2 (some .int), Cond.constant RL 8 (2654435), Cond.methodLink RL 184 yL_part]
def wsL_law0_r19 : List Cond := [Cond.static yL_part, Cond.code yL_part cL_part 2 (some .int), Cond.constant RL 7 (2147483647), Cond.methodLink RL 187 yX2_digest, Cond.instanceMethod yX2_digest, Cond.selects RX2 yX2_digest yX2_digest, Cond.code yX2_digest cX2_digest 4 (some .long), Cond.constantLong RX2 185 (2731), Cond.methodLink RX2 187 yX2_count, Cond.methodLink RX2 190 yX2_mixed, Cond.static yX2_mixed, Cond.code yX2_mixed cX2_mixed 4 (some .long), Cond.constantLong RX2 234 (31), Cond.methodLink RX2 194 yX2_withPages, Cond.instanceMethod yX2_withPages, Cond.selects RX2 yX2_withPages yX2_withPages, Cond.code yX2_withPages cX2_withPages 7 (some .long), Cond.methodLink RX2 198 yX2_withBlocks, Cond.instanceMethod yX2_withBlocks, Cond.selects RX2 yX2_withBlocks yX2_withBlocks, Cond.code yX2_withBlocks cX2_withBlocks 7 (some .long), Cond.methodLink RX2 201 yX2_withStreams, Cond.instanceMethod yX2_withStreams, Cond.selects RX2 yX2_withStreams yX2_withStreams]
def wsL_law0_r20 : List Cond := [Cond.code yX2_withStreams cX2_withStreams 7 (some .long), Cond.methodLink RX2 204 yX2_withForecasts, Cond.instanceMethod yX2_withForecasts, Cond.selects RX2 yX2_withForecasts yX2_withForecasts, Cond.code yX2_withForecasts cX2_withForecasts 7 (some .long), Cond.methodLink RX2 207 yX2_ifRewritten, Cond.methodLink RX2 210 yX2_bestRule, Cond.methodLink RX2 213 yX2_amplification, Cond.methodLink RX2 217 yX2_bitsOf, Cond.static yX2_bitsOf, Cond.code yX2_bitsOf cX2_bitsOf 7 (some .long), Cond.constantLong RX2 236 (1023), Cond.constantDouble RX2 238 (4611686018427387904), Cond.constantDouble RX2 240 (4841369599423283200)]
def wsL_law0 : List Cond := (wsL_law0_r1 ++ (wsL_law0_r2 ++ (wsL_law0_r3 ++ (wsL_law0_r4 ++ (wsL_law0_r5 ++ (wsL_law0_r6 ++ (wsL_law0_r7 ++ (wsL_law0_r8 ++ (wsL_law0_r9 ++ (wsL_law0_r10 ++ (wsL_law0_r11 ++ (wsL_law0_r12 ++ (wsL_law0_r13 ++ (wsL_law0_r14 ++ (wsL_law0_r15 ++ (wsL_law0_r16 ++ (wsL_law0_r17 ++ (wsL_law0_r18 ++ (wsL_law0_r19 ++ wsL_law0_r20))))))))))))))))))) ++ wsX20 ++ wsX10 ++ wsX00 ++ ([] : List Cond)
def wsL_law : List Cond := wsL_law0 ++ (vx_atS RX2 49 "java/lang/IndexOutOfBoundsException" ["java/lang/RuntimeException", "java/lang/Exception"]).filter goodWord ++ (vx_atS RX2 56 "java/lang/IllegalArgumentException" ["java/lang/RuntimeException", "java/lang/Exception"]).filter goodWord ++ (vx_atS RX2 82 "java/lang/IllegalStateException" ["java/lang/RuntimeException", "java/lang/Exception"]).filter goodWord
set_option maxRecDepth 20000 in
theorem wsL_law_in0 : ∀ w ∈ wsL_law0, w ∈ lw_tbl := fun w h => (goodIn_p wsL_law0 [626, 44, 47, 52, 56, 118, 496, 161, 164, 252, 256, 260, 263, 266, 273, 277, 281, 285, 290, 294, 298, 302, 306, 310, 314, 318, 500, 392, 396, 504, 508, 513, 408, 521, 527, 531, 536, 542, 546, 550, 554, 558, 562, 566, 569, 573, 577, 581, 323, 587, 388, 591, 404, 412, 416, 419, 595, 601, 430, 434, 438, 343, 348, 351, 355, 359, 363, 367, 370, 606, 610, 446, 451, 458, 463, 468, 472, 620, 615, 623, 631, 634, 637, 642, 669, 486, 482, 374, 379, 384, 400, 426, 442, 476] (by decide +kernel) (by decide +kernel) w h).1
theorem wsL_law_x0 : ∀ w ∈ (vx_atS RX2 49 "java/lang/IndexOutOfBoundsException" ["java/lang/RuntimeException", "java/lang/Exception"]).filter goodWord, w ∈ lw_tbl := by decide +kernel
theorem wsL_law_x1 : ∀ w ∈ (vx_atS RX2 56 "java/lang/IllegalArgumentException" ["java/lang/RuntimeException", "java/lang/Exception"]).filter goodWord, w ∈ lw_tbl := by decide +kernel
theorem wsL_law_x2 : ∀ w ∈ (vx_atS RX2 82 "java/lang/IllegalStateException" ["java/lang/RuntimeException", "java/lang/Exception"]).filter goodWord, w ∈ lw_tbl := by decide +kernel
theorem wsL_law_in : ∀ w ∈ wsL_law, w ∈ lw_tbl := fun w h => (List.mem_append.mp h).elim (fun h => (List.mem_append.mp h).elim (fun h => (List.mem_append.mp h).elim (fun h => wsL_law_in0 w h) (fun h => wsL_law_x0 w h)) (fun h => wsL_law_x1 w h)) (fun h => wsL_law_x2 w h)
theorem inlX0 : ∀ w ∈ wsX00, w ∈ wsL_law := fun _ h => List.mem_append_left _ (List.mem_append_left _ (List.mem_append_left _ (List.mem_append_left _ (List.mem_append_right _ h))))
theorem inX0 : ∀ w ∈ wsX00, w ∈ lw_tbl := fun w h => wsL_law_in w (inlX0 w h)
theorem inlX1 : ∀ w ∈ wsX10, w ∈ wsL_law := fun _ h => List.mem_append_left _ (List.mem_append_left _ (List.mem_append_left _ (List.mem_append_left _ (List.mem_append_left _ (List.mem_append_right _ h)))))
theorem inX1 : ∀ w ∈ wsX10, w ∈ lw_tbl := fun w h => wsL_law_in w (inlX1 w h)
theorem inlX2 : ∀ w ∈ wsX20, w ∈ wsL_law := fun _ h => List.mem_append_left _ (List.mem_append_left _ (List.mem_append_left _ (List.mem_append_left _ (List.mem_append_left _ (List.mem_append_left _ (List.mem_append_right _ h))))))
theorem inX2 : ∀ w ∈ wsX20, w ∈ lw_tbl := fun w h => wsL_law_in w (inlX2 w h)
theorem inX3 : ∀ w ∈ wsX30, w ∈ lw_tbl := by decide +kernel
theorem inJx145de : ∀ w ∈ wsJx145de0, w ∈ lw_tbl := by decide +kernel
theorem inJ6 : ∀ w ∈ wsJ60, w ∈ lw_tbl := by decide +kernel
theorem inJ9 : ∀ w ∈ wsJ90, w ∈ lw_tbl := by decide +kernel
theorem inJ0 : ∀ w ∈ wsJ00, w ∈ lw_tbl := by decide +kernel
theorem inJ10 : ∀ w ∈ wsJ100, w ∈ lw_tbl := by decide +kernel
theorem inJ7 : ∀ w ∈ wsJ70, w ∈ lw_tbl := by decide +kernel
end
section
theorem dX0_init_0 : decode cX0_init 0 = .ok (.aload_n 0, 1) := by decide +kernel
theorem dX0_init_1 : decode cX0_init 1 = .ok (.invokespecial 3, 3) := by decide +kernel
theorem dX0_init_4 : decode cX0_init 4 = .ok (.aload_n 0, 1) := by decide +kernel
theorem dX0_init_5 : decode cX0_init 5 = .ok (.iconst 0, 1) := by decide +kernel
theorem dX0_init_6 : decode cX0_init 6 = .ok (.putfield 11, 3) := by decide +kernel
theorem dX0_init_9 : decode cX0_init 9 = .ok (.aload_n 0, 1) := by decide +kernel
theorem dX0_init_10 : decode cX0_init 10 = .ok (.iconst 0, 1) := by decide +kernel
theorem dX0_init_11 : decode cX0_init 11 = .ok (.putfield 15, 3) := by decide +kernel
theorem dX0_init_14 : decode cX0_init 14 = .ok (.aload_n 0, 1) := by decide +kernel
theorem dX0_init_15 : decode cX0_init 15 = .ok (.iconst 0, 1) := by decide +kernel
theorem dX0_init_16 : decode cX0_init 16 = .ok (.putfield 18, 3) := by decide +kernel
theorem dX0_init_19 : decode cX0_init 19 = .ok (.aload_n 0, 1) := by decide +kernel
theorem dX0_init_20 : decode cX0_init 20 = .ok (.iconst 0, 1) := by decide +kernel
theorem dX0_init_21 : decode cX0_init 21 = .ok (.putfield 21, 3) := by decide +kernel
theorem dX0_init_24 : decode cX0_init 24 = .ok (.return_, 1) := by decide +kernel
theorem dX0_restart_0 : decode cX0_restart 0 = .ok (.aload_n 0, 1) := by decide +kernel
theorem dX0_restart_1 : decode cX0_restart 1 = .ok (.iconst 0, 1) := by decide +kernel
theorem dX0_restart_2 : decode cX0_restart 2 = .ok (.putfield 11, 3) := by decide +kernel
theorem dX0_restart_5 : decode cX0_restart 5 = .ok (.return_, 1) := by decide +kernel
theorem dX0_isPartWhole_0 : decode cX0_isPartWhole 0 = .ok (.aload_n 0, 1) := by decide +kernel
theorem dX0_isPartWhole_1 : decode cX0_isPartWhole 1 = .ok (.getfield 11, 3) := by decide +kernel
theorem dX0_isPartWhole_4 : decode cX0_isPartWhole 4 = .ok (.iconst 1, 1) := by decide +kernel
theorem dX0_isPartWhole_5 : decode cX0_isPartWhole 5 = .ok (.if_icmp .eq 30, 3) := by decide +kernel
theorem dX0_isPartWhole_8 : decode cX0_isPartWhole 8 = .ok (.aload_n 0, 1) := by decide +kernel
theorem dX0_isPartWhole_9 : decode cX0_isPartWhole 9 = .ok (.getfield 11, 3) := by decide +kernel
theorem dX0_isPartWhole_12 : decode cX0_isPartWhole 12 = .ok (.iconst 5, 1) := by decide +kernel
theorem dX0_isPartWhole_13 : decode cX0_isPartWhole 13 = .ok (.if_icmp .eq 22, 3) := by decide +kernel
theorem dX0_isPartWhole_16 : decode cX0_isPartWhole 16 = .ok (.aload_n 0, 1) := by decide +kernel
theorem dX0_isPartWhole_17 : decode cX0_isPartWhole 17 = .ok (.getfield 11, 3) := by decide +kernel
theorem dX0_isPartWhole_20 : decode cX0_isPartWhole 20 = .ok (.iconst 3, 1) := by decide +kernel
theorem dX0_isPartWhole_21 : decode cX0_isPartWhole 21 = .ok (.if_icmp .ne 18, 3) := by decide +kernel
theorem dX0_isPartWhole_24 : decode cX0_isPartWhole 24 = .ok (.aload_n 0, 1) := by decide +kernel
theorem dX0_isPartWhole_25 : decode cX0_isPartWhole 25 = .ok (.getfield 18, 3) := by decide +kernel
theorem dX0_isPartWhole_28 : decode cX0_isPartWhole 28 = .ok (.aload_n 0, 1) := by decide +kernel
theorem dX0_isPartWhole_29 : decode cX0_isPartWhole 29 = .ok (.getfield 15, 3) := by decide +kernel
theorem dX0_isPartWhole_32 : decode cX0_isPartWhole 32 = .ok (.if_icmp .le 7, 3) := by decide +kernel
theorem dX0_isPartWhole_35 : decode cX0_isPartWhole 35 = .ok (.iconst 1, 1) := by decide +kernel
theorem dX0_isPartWhole_36 : decode cX0_isPartWhole 36 = .ok (.goto 4, 3) := by decide +kernel
theorem dX0_isPartWhole_39 : decode cX0_isPartWhole 39 = .ok (.iconst 0, 1) := by decide +kernel
theorem dX0_isPartWhole_40 : decode cX0_isPartWhole 40 = .ok (.ireturn, 1) := by decide +kernel
set_option maxRecDepth 20000 in
theorem ggX0_accepts_X0_acceptsDigit : GoodIn wsX0_accepts wsX0_acceptsDigit := goodIn_r _ [7, 1, 2, 8, 9, 10, 11, 12, 6, 13, 14, 15, 16, 17, 18, 19, 20, 21, 22, 23, 24, 25, 26, 27, 28, 33, 34, 35, 36] (by decide +kernel) (by decide +kernel)
set_option maxRecDepth 20000 in
theorem gX0_accepts_X0_acceptsDigit : GoodIn wsX0_accepts (wsV RX0 24 RX0 yX0_acceptsDigit wsX0_acceptsDigit) := goodIn_app (goodIn_of _ (by decide +kernel)) ggX0_accepts_X0_acceptsDigit
set_option maxRecDepth 20000 in
theorem ggX0_accepts_X0_goesOn : GoodIn wsX0_accepts wsX0_goesOn := goodIn_r _ [13, 1, 33, 34, 35, 36] (by decide +kernel) (by decide +kernel)
set_option maxRecDepth 20000 in
theorem gX0_accepts_X0_goesOn : GoodIn wsX0_accepts (wsV RX0 28 RX0 yX0_goesOn wsX0_goesOn) := goodIn_app (goodIn_of _ (by decide +kernel)) ggX0_accepts_X0_goesOn
set_option maxRecDepth 20000 in
theorem ggX0_accepts_X0_isPartWhole : GoodIn wsX0_accepts wsX0_isPartWhole := goodIn_r _ [32, 1, 8, 2, 33, 34, 35, 36] (by decide +kernel) (by decide +kernel)
set_option maxRecDepth 20000 in
theorem gX0_accepts_X0_isPartWhole : GoodIn wsX0_accepts (wsV RX0 32 RX0 yX0_isPartWhole wsX0_isPartWhole) := goodIn_app (goodIn_of _ (by decide +kernel)) ggX0_accepts_X0_isPartWhole
theorem dX0_accepts_0 : decode cX0_accepts 0 = .ok (.iload_n 1, 1) := by decide +kernel
theorem dX0_accepts_1 : decode cX0_accepts 1 = .ok (.bipush 48, 2) := by decide +kernel
theorem dX0_accepts_3 : decode cX0_accepts 3 = .ok (.if_icmp .lt 18, 3) := by decide +kernel
theorem dX0_accepts_6 : decode cX0_accepts 6 = .ok (.iload_n 1, 1) := by decide +kernel
theorem dX0_accepts_7 : decode cX0_accepts 7 = .ok (.bipush 57, 2) := by decide +kernel
theorem dX0_accepts_9 : decode cX0_accepts 9 = .ok (.if_icmp .gt 12, 3) := by decide +kernel
theorem dX0_accepts_12 : decode cX0_accepts 12 = .ok (.aload_n 0, 1) := by decide +kernel
theorem dX0_accepts_13 : decode cX0_accepts 13 = .ok (.iload_n 1, 1) := by decide +kernel
theorem dX0_accepts_14 : decode cX0_accepts 14 = .ok (.bipush 48, 2) := by decide +kernel
theorem dX0_accepts_16 : decode cX0_accepts 16 = .ok (.isub, 1) := by decide +kernel
theorem dX0_accepts_17 : decode cX0_accepts 17 = .ok (.invokevirtual 24, 3) := by decide +kernel
theorem dX0_accepts_20 : decode cX0_accepts 20 = .ok (.ireturn, 1) := by decide +kernel
theorem dX0_accepts_21 : decode cX0_accepts 21 = .ok (.iload_n 1, 1) := by decide +kernel
theorem dX0_accepts_22 : decode cX0_accepts 22 = .ok (.lookupswitch 98 #[(45, 34), (59, 88), (104, 62)], 34) := by decide +kernel
theorem dX0_accepts_56 : decode cX0_accepts 56 = .ok (.aload_n 0, 1) := by decide +kernel
theorem dX0_accepts_57 : decode cX0_accepts 57 = .ok (.aload_n 0, 1) := by decide +kernel
theorem dX0_accepts_58 : decode cX0_accepts 58 = .ok (.getfield 11, 3) := by decide +kernel
theorem dX0_accepts_61 : decode cX0_accepts 61 = .ok (.iconst 1, 1) := by decide +kernel
theorem dX0_accepts_62 : decode cX0_accepts 62 = .ok (.if_icmp .ne 16, 3) := by decide +kernel
theorem dX0_accepts_65 : decode cX0_accepts 65 = .ok (.aload_n 0, 1) := by decide +kernel
theorem dX0_accepts_66 : decode cX0_accepts 66 = .ok (.getfield 15, 3) := by decide +kernel
theorem dX0_accepts_69 : decode cX0_accepts 69 = .ok (.bipush 39, 2) := by decide +kernel
theorem dX0_accepts_71 : decode cX0_accepts 71 = .ok (.if_icmp .ge 7, 3) := by decide +kernel
theorem dX0_accepts_74 : decode cX0_accepts 74 = .ok (.iconst 1, 1) := by decide +kernel
theorem dX0_accepts_75 : decode cX0_accepts 75 = .ok (.goto 4, 3) := by decide +kernel
theorem dX0_accepts_78 : decode cX0_accepts 78 = .ok (.iconst 0, 1) := by decide +kernel
theorem dX0_accepts_79 : decode cX0_accepts 79 = .ok (.iconst 2, 1) := by decide +kernel
theorem dX0_accepts_80 : decode cX0_accepts 80 = .ok (.invokevirtual 28, 3) := by decide +kernel
theorem dX0_accepts_83 : decode cX0_accepts 83 = .ok (.ireturn, 1) := by decide +kernel
theorem dX0_accepts_84 : decode cX0_accepts 84 = .ok (.aload_n 0, 1) := by decide +kernel
theorem dX0_accepts_85 : decode cX0_accepts 85 = .ok (.aload_n 0, 1) := by decide +kernel
theorem dX0_accepts_86 : decode cX0_accepts 86 = .ok (.invokevirtual 32, 3) := by decide +kernel
theorem dX0_accepts_89 : decode cX0_accepts 89 = .ok (.ifCond .eq 15, 3) := by decide +kernel
theorem dX0_accepts_92 : decode cX0_accepts 92 = .ok (.aload_n 0, 1) := by decide +kernel
theorem dX0_accepts_93 : decode cX0_accepts 93 = .ok (.getfield 11, 3) := by decide +kernel
theorem dX0_accepts_96 : decode cX0_accepts 96 = .ok (.iconst 5, 1) := by decide +kernel
theorem dX0_accepts_97 : decode cX0_accepts 97 = .ok (.if_icmp .eq 7, 3) := by decide +kernel
theorem dX0_accepts_100 : decode cX0_accepts 100 = .ok (.iconst 1, 1) := by decide +kernel
theorem dX0_accepts_101 : decode cX0_accepts 101 = .ok (.goto 4, 3) := by decide +kernel
theorem dX0_accepts_104 : decode cX0_accepts 104 = .ok (.iconst 0, 1) := by decide +kernel
theorem dX0_accepts_105 : decode cX0_accepts 105 = .ok (.iconst 4, 1) := by decide +kernel
theorem dX0_accepts_106 : decode cX0_accepts 106 = .ok (.invokevirtual 28, 3) := by decide +kernel
theorem dX0_accepts_109 : decode cX0_accepts 109 = .ok (.ireturn, 1) := by decide +kernel
theorem dX0_accepts_110 : decode cX0_accepts 110 = .ok (.aload_n 0, 1) := by decide +kernel
theorem dX0_accepts_111 : decode cX0_accepts 111 = .ok (.aload_n 0, 1) := by decide +kernel
theorem dX0_accepts_112 : decode cX0_accepts 112 = .ok (.invokevirtual 32, 3) := by decide +kernel
theorem dX0_accepts_115 : decode cX0_accepts 115 = .ok (.iconst 0, 1) := by decide +kernel
theorem dX0_accepts_116 : decode cX0_accepts 116 = .ok (.invokevirtual 28, 3) := by decide +kernel
theorem dX0_accepts_119 : decode cX0_accepts 119 = .ok (.ireturn, 1) := by decide +kernel
theorem dX0_accepts_120 : decode cX0_accepts 120 = .ok (.iconst 0, 1) := by decide +kernel
theorem dX0_accepts_121 : decode cX0_accepts 121 = .ok (.ireturn, 1) := by decide +kernel
set_option maxRecDepth 20000 in
theorem ggX0_acceptsDigit_X0_goesOn : GoodIn wsX0_acceptsDigit wsX0_goesOn := goodIn_r _ [9, 1, 25, 26, 27, 28] (by decide +kernel) (by decide +kernel)
set_option maxRecDepth 20000 in
theorem gX0_acceptsDigit_X0_goesOn : GoodIn wsX0_acceptsDigit (wsV RX0 28 RX0 yX0_goesOn wsX0_goesOn) := goodIn_app (goodIn_of _ (by decide +kernel)) ggX0_acceptsDigit_X0_goesOn
set_option maxRecDepth 20000 in
theorem ggX0_acceptsDigit_X0_acceptsFirst : GoodIn wsX0_acceptsDigit wsX0_acceptsFirst := goodIn_r _ [13, 2, 3, 14, 15, 8, 16, 25, 26, 27, 28] (by decide +kernel) (by decide +kernel)
set_option maxRecDepth 20000 in
theorem gX0_acceptsDigit_X0_acceptsFirst : GoodIn wsX0_acceptsDigit (wsV RX0 36 RX0 yX0_acceptsFirst wsX0_acceptsFirst) := goodIn_app (goodIn_of _ (by decide +kernel)) ggX0_acceptsDigit_X0_acceptsFirst
set_option maxRecDepth 20000 in
theorem ggX0_acceptsDigit_X0_mayGrow : GoodIn wsX0_acceptsDigit wsX0_mayGrow := goodIn_r _ [16] (by decide +kernel) (by decide +kernel)
set_option maxRecDepth 20000 in
theorem gX0_acceptsDigit_X0_mayGrow : GoodIn wsX0_acceptsDigit (va_wsS RX0 39 yX0_mayGrow wsX0_mayGrow) := goodIn_app (goodIn_of _ (by decide +kernel)) ggX0_acceptsDigit_X0_mayGrow
set_option maxRecDepth 20000 in
theorem ggX0_acceptsDigit_X0_acceptsLast : GoodIn wsX0_acceptsDigit wsX0_acceptsLast := goodIn_r _ [20, 3, 5, 6, 7, 8, 9, 1, 25, 26, 27, 28] (by decide +kernel) (by decide +kernel)
set_option maxRecDepth 20000 in
theorem gX0_acceptsDigit_X0_acceptsLast : GoodIn wsX0_acceptsDigit (wsV RX0 42 RX0 yX0_acceptsLast wsX0_acceptsLast) := goodIn_app (goodIn_of _ (by decide +kernel)) ggX0_acceptsDigit_X0_acceptsLast
set_option maxRecDepth 20000 in
theorem ggX0_acceptsDigit_X0_acceptsHint : GoodIn wsX0_acceptsDigit wsX0_acceptsHint := goodIn_r _ [24, 4, 5, 6, 7, 8, 9, 1, 25, 26, 27, 28] (by decide +kernel) (by decide +kernel)
set_option maxRecDepth 20000 in
theorem gX0_acceptsDigit_X0_acceptsHint : GoodIn wsX0_acceptsDigit (wsV RX0 46 RX0 yX0_acceptsHint wsX0_acceptsHint) := goodIn_app (goodIn_of _ (by decide +kernel)) ggX0_acceptsDigit_X0_acceptsHint
theorem dX0_acceptsDigit_0 : decode cX0_acceptsDigit 0 = .ok (.aload_n 0, 1) := by decide +kernel
theorem dX0_acceptsDigit_1 : decode cX0_acceptsDigit 1 = .ok (.getfield 11, 3) := by decide +kernel
theorem dX0_acceptsDigit_4 : decode cX0_acceptsDigit 4 = .ok (.tableswitch 163 0 4 #[36, 58, 72, 112, 157], 36) := by decide +kernel
theorem dX0_acceptsDigit_40 : decode cX0_acceptsDigit 40 = .ok (.aload_n 0, 1) := by decide +kernel
theorem dX0_acceptsDigit_41 : decode cX0_acceptsDigit 41 = .ok (.iload_n 1, 1) := by decide +kernel
theorem dX0_acceptsDigit_42 : decode cX0_acceptsDigit 42 = .ok (.putfield 15, 3) := by decide +kernel
theorem dX0_acceptsDigit_45 : decode cX0_acceptsDigit 45 = .ok (.aload_n 0, 1) := by decide +kernel
theorem dX0_acceptsDigit_46 : decode cX0_acceptsDigit 46 = .ok (.iload_n 1, 1) := by decide +kernel
theorem dX0_acceptsDigit_47 : decode cX0_acceptsDigit 47 = .ok (.putfield 18, 3) := by decide +kernel
theorem dX0_acceptsDigit_50 : decode cX0_acceptsDigit 50 = .ok (.aload_n 0, 1) := by decide +kernel
theorem dX0_acceptsDigit_51 : decode cX0_acceptsDigit 51 = .ok (.iconst 0, 1) := by decide +kernel
theorem dX0_acceptsDigit_52 : decode cX0_acceptsDigit 52 = .ok (.putfield 21, 3) := by decide +kernel
theorem dX0_acceptsDigit_55 : decode cX0_acceptsDigit 55 = .ok (.aload_n 0, 1) := by decide +kernel
theorem dX0_acceptsDigit_56 : decode cX0_acceptsDigit 56 = .ok (.iconst 1, 1) := by decide +kernel
theorem dX0_acceptsDigit_57 : decode cX0_acceptsDigit 57 = .ok (.iconst 1, 1) := by decide +kernel
theorem dX0_acceptsDigit_58 : decode cX0_acceptsDigit 58 = .ok (.invokevirtual 28, 3) := by decide +kernel
theorem dX0_acceptsDigit_61 : decode cX0_acceptsDigit 61 = .ok (.ireturn, 1) := by decide +kernel
theorem dX0_acceptsDigit_62 : decode cX0_acceptsDigit 62 = .ok (.aload_n 0, 1) := by decide +kernel
theorem dX0_acceptsDigit_63 : decode cX0_acceptsDigit 63 = .ok (.aload_n 0, 1) := by decide +kernel
theorem dX0_acceptsDigit_64 : decode cX0_acceptsDigit 64 = .ok (.getfield 15, 3) := by decide +kernel
theorem dX0_acceptsDigit_67 : decode cX0_acceptsDigit 67 = .ok (.bipush 10, 2) := by decide +kernel
theorem dX0_acceptsDigit_69 : decode cX0_acceptsDigit 69 = .ok (.imul, 1) := by decide +kernel
theorem dX0_acceptsDigit_70 : decode cX0_acceptsDigit 70 = .ok (.iload_n 1, 1) := by decide +kernel
theorem dX0_acceptsDigit_71 : decode cX0_acceptsDigit 71 = .ok (.iadd, 1) := by decide +kernel
theorem dX0_acceptsDigit_72 : decode cX0_acceptsDigit 72 = .ok (.invokevirtual 36, 3) := by decide +kernel
theorem dX0_acceptsDigit_75 : decode cX0_acceptsDigit 75 = .ok (.ireturn, 1) := by decide +kernel
theorem dX0_acceptsDigit_76 : decode cX0_acceptsDigit 76 = .ok (.aload_n 0, 1) := by decide +kernel
theorem dX0_acceptsDigit_77 : decode cX0_acceptsDigit 77 = .ok (.iload_n 1, 1) := by decide +kernel
theorem dX0_acceptsDigit_78 : decode cX0_acceptsDigit 78 = .ok (.iload_n 1, 1) := by decide +kernel
theorem dX0_acceptsDigit_79 : decode cX0_acceptsDigit 79 = .ok (.aload_n 0, 1) := by decide +kernel
theorem dX0_acceptsDigit_80 : decode cX0_acceptsDigit 80 = .ok (.getfield 15, 3) := by decide +kernel
theorem dX0_acceptsDigit_83 : decode cX0_acceptsDigit 83 = .ok (.if_icmp .gt 24, 3) := by decide +kernel
theorem dX0_acceptsDigit_86 : decode cX0_acceptsDigit 86 = .ok (.iload_n 1, 1) := by decide +kernel
theorem dX0_acceptsDigit_87 : decode cX0_acceptsDigit 87 = .ok (.invokestatic 39, 3) := by decide +kernel
theorem dX0_acceptsDigit_90 : decode cX0_acceptsDigit 90 = .ok (.ifCond .eq 21, 3) := by decide +kernel
theorem dX0_acceptsDigit_93 : decode cX0_acceptsDigit 93 = .ok (.iload_n 1, 1) := by decide +kernel
theorem dX0_acceptsDigit_94 : decode cX0_acceptsDigit 94 = .ok (.bipush 10, 2) := by decide +kernel
theorem dX0_acceptsDigit_96 : decode cX0_acceptsDigit 96 = .ok (.imul, 1) := by decide +kernel
theorem dX0_acceptsDigit_97 : decode cX0_acceptsDigit 97 = .ok (.bipush 9, 2) := by decide +kernel
theorem dX0_acceptsDigit_99 : decode cX0_acceptsDigit 99 = .ok (.iadd, 1) := by decide +kernel
theorem dX0_acceptsDigit_100 : decode cX0_acceptsDigit 100 = .ok (.aload_n 0, 1) := by decide +kernel
theorem dX0_acceptsDigit_101 : decode cX0_acceptsDigit 101 = .ok (.getfield 15, 3) := by decide +kernel
theorem dX0_acceptsDigit_104 : decode cX0_acceptsDigit 104 = .ok (.if_icmp .le 7, 3) := by decide +kernel
theorem dX0_acceptsDigit_107 : decode cX0_acceptsDigit 107 = .ok (.iconst 1, 1) := by decide +kernel
theorem dX0_acceptsDigit_108 : decode cX0_acceptsDigit 108 = .ok (.goto 4, 3) := by decide +kernel
theorem dX0_acceptsDigit_111 : decode cX0_acceptsDigit 111 = .ok (.iconst 0, 1) := by decide +kernel
theorem dX0_acceptsDigit_112 : decode cX0_acceptsDigit 112 = .ok (.invokevirtual 42, 3) := by decide +kernel
theorem dX0_acceptsDigit_115 : decode cX0_acceptsDigit 115 = .ok (.ireturn, 1) := by decide +kernel
theorem dX0_acceptsDigit_116 : decode cX0_acceptsDigit 116 = .ok (.aload_n 0, 1) := by decide +kernel
theorem dX0_acceptsDigit_117 : decode cX0_acceptsDigit 117 = .ok (.aload_n 0, 1) := by decide +kernel
theorem dX0_acceptsDigit_118 : decode cX0_acceptsDigit 118 = .ok (.getfield 18, 3) := by decide +kernel
theorem dX0_acceptsDigit_121 : decode cX0_acceptsDigit 121 = .ok (.bipush 10, 2) := by decide +kernel
theorem dX0_acceptsDigit_123 : decode cX0_acceptsDigit 123 = .ok (.imul, 1) := by decide +kernel
theorem dX0_acceptsDigit_124 : decode cX0_acceptsDigit 124 = .ok (.iload_n 1, 1) := by decide +kernel
theorem dX0_acceptsDigit_125 : decode cX0_acceptsDigit 125 = .ok (.iadd, 1) := by decide +kernel
theorem dX0_acceptsDigit_126 : decode cX0_acceptsDigit 126 = .ok (.aload_n 0, 1) := by decide +kernel
theorem dX0_acceptsDigit_127 : decode cX0_acceptsDigit 127 = .ok (.getfield 18, 3) := by decide +kernel
theorem dX0_acceptsDigit_130 : decode cX0_acceptsDigit 130 = .ok (.invokestatic 39, 3) := by decide +kernel
theorem dX0_acceptsDigit_133 : decode cX0_acceptsDigit 133 = .ok (.ifCond .eq 23, 3) := by decide +kernel
theorem dX0_acceptsDigit_136 : decode cX0_acceptsDigit 136 = .ok (.aload_n 0, 1) := by decide +kernel
theorem dX0_acceptsDigit_137 : decode cX0_acceptsDigit 137 = .ok (.getfield 18, 3) := by decide +kernel
theorem dX0_acceptsDigit_140 : decode cX0_acceptsDigit 140 = .ok (.bipush 10, 2) := by decide +kernel
theorem dX0_acceptsDigit_142 : decode cX0_acceptsDigit 142 = .ok (.imul, 1) := by decide +kernel
theorem dX0_acceptsDigit_143 : decode cX0_acceptsDigit 143 = .ok (.iload_n 1, 1) := by decide +kernel
theorem dX0_acceptsDigit_144 : decode cX0_acceptsDigit 144 = .ok (.iadd, 1) := by decide +kernel
theorem dX0_acceptsDigit_145 : decode cX0_acceptsDigit 145 = .ok (.aload_n 0, 1) := by decide +kernel
theorem dX0_acceptsDigit_146 : decode cX0_acceptsDigit 146 = .ok (.getfield 15, 3) := by decide +kernel
theorem dX0_acceptsDigit_149 : decode cX0_acceptsDigit 149 = .ok (.if_icmp .le 7, 3) := by decide +kernel
theorem dX0_acceptsDigit_152 : decode cX0_acceptsDigit 152 = .ok (.iconst 1, 1) := by decide +kernel
theorem dX0_acceptsDigit_153 : decode cX0_acceptsDigit 153 = .ok (.goto 4, 3) := by decide +kernel
theorem dX0_acceptsDigit_156 : decode cX0_acceptsDigit 156 = .ok (.iconst 0, 1) := by decide +kernel
theorem dX0_acceptsDigit_157 : decode cX0_acceptsDigit 157 = .ok (.invokevirtual 42, 3) := by decide +kernel
theorem dX0_acceptsDigit_160 : decode cX0_acceptsDigit 160 = .ok (.ireturn, 1) := by decide +kernel
theorem dX0_acceptsDigit_161 : decode cX0_acceptsDigit 161 = .ok (.aload_n 0, 1) := by decide +kernel
theorem dX0_acceptsDigit_162 : decode cX0_acceptsDigit 162 = .ok (.iload_n 1, 1) := by decide +kernel
theorem dX0_acceptsDigit_163 : decode cX0_acceptsDigit 163 = .ok (.invokevirtual 46, 3) := by decide +kernel
theorem dX0_acceptsDigit_166 : decode cX0_acceptsDigit 166 = .ok (.ireturn, 1) := by decide +kernel
theorem dX0_acceptsDigit_167 : decode cX0_acceptsDigit 167 = .ok (.iconst 0, 1) := by decide +kernel
theorem dX0_acceptsDigit_168 : decode cX0_acceptsDigit 168 = .ok (.ireturn, 1) := by decide +kernel
set_option maxRecDepth 20000 in
theorem ggX0_acceptsFirst_X0_mayGrow : GoodIn wsX0_acceptsFirst wsX0_mayGrow := goodIn_r _ [6] (by decide +kernel) (by decide +kernel)
set_option maxRecDepth 20000 in
theorem gX0_acceptsFirst_X0_mayGrow : GoodIn wsX0_acceptsFirst (va_wsS RX0 39 yX0_mayGrow wsX0_mayGrow) := goodIn_app (goodIn_of _ (by decide +kernel)) ggX0_acceptsFirst_X0_mayGrow
theorem dX0_acceptsFirst_0 : decode cX0_acceptsFirst 0 = .ok (.aload_n 0, 1) := by decide +kernel
theorem dX0_acceptsFirst_1 : decode cX0_acceptsFirst 1 = .ok (.getfield 15, 3) := by decide +kernel
theorem dX0_acceptsFirst_4 : decode cX0_acceptsFirst 4 = .ok (.invokestatic 39, 3) := by decide +kernel
theorem dX0_acceptsFirst_7 : decode cX0_acceptsFirst 7 = .ok (.ifCond .ne 5, 3) := by decide +kernel
theorem dX0_acceptsFirst_10 : decode cX0_acceptsFirst 10 = .ok (.iconst 0, 1) := by decide +kernel
theorem dX0_acceptsFirst_11 : decode cX0_acceptsFirst 11 = .ok (.ireturn, 1) := by decide +kernel
theorem dX0_acceptsFirst_12 : decode cX0_acceptsFirst 12 = .ok (.aload_n 0, 1) := by decide +kernel
theorem dX0_acceptsFirst_13 : decode cX0_acceptsFirst 13 = .ok (.iload_n 1, 1) := by decide +kernel
theorem dX0_acceptsFirst_14 : decode cX0_acceptsFirst 14 = .ok (.putfield 15, 3) := by decide +kernel
theorem dX0_acceptsFirst_17 : decode cX0_acceptsFirst 17 = .ok (.aload_n 0, 1) := by decide +kernel
theorem dX0_acceptsFirst_18 : decode cX0_acceptsFirst 18 = .ok (.iload_n 1, 1) := by decide +kernel
theorem dX0_acceptsFirst_19 : decode cX0_acceptsFirst 19 = .ok (.putfield 18, 3) := by decide +kernel
theorem dX0_acceptsFirst_22 : decode cX0_acceptsFirst 22 = .ok (.iconst 1, 1) := by decide +kernel
theorem dX0_acceptsFirst_23 : decode cX0_acceptsFirst 23 = .ok (.ireturn, 1) := by decide +kernel
set_option maxRecDepth 20000 in
theorem ggX0_acceptsLast_X0_goesOn : GoodIn wsX0_acceptsLast wsX0_goesOn := goodIn_r _ [6, 7, 8, 9, 10, 11] (by decide +kernel) (by decide +kernel)
set_option maxRecDepth 20000 in
theorem gX0_acceptsLast_X0_goesOn : GoodIn wsX0_acceptsLast (wsV RX0 28 RX0 yX0_goesOn wsX0_goesOn) := goodIn_app (goodIn_of _ (by decide +kernel)) ggX0_acceptsLast_X0_goesOn
theorem dX0_acceptsLast_0 : decode cX0_acceptsLast 0 = .ok (.iload_n 2, 1) := by decide +kernel
theorem dX0_acceptsLast_1 : decode cX0_acceptsLast 1 = .ok (.ifCond .ne 5, 3) := by decide +kernel
theorem dX0_acceptsLast_4 : decode cX0_acceptsLast 4 = .ok (.iconst 0, 1) := by decide +kernel
theorem dX0_acceptsLast_5 : decode cX0_acceptsLast 5 = .ok (.ireturn, 1) := by decide +kernel
theorem dX0_acceptsLast_6 : decode cX0_acceptsLast 6 = .ok (.aload_n 0, 1) := by decide +kernel
theorem dX0_acceptsLast_7 : decode cX0_acceptsLast 7 = .ok (.iload_n 1, 1) := by decide +kernel
theorem dX0_acceptsLast_8 : decode cX0_acceptsLast 8 = .ok (.putfield 18, 3) := by decide +kernel
theorem dX0_acceptsLast_11 : decode cX0_acceptsLast 11 = .ok (.aload_n 0, 1) := by decide +kernel
theorem dX0_acceptsLast_12 : decode cX0_acceptsLast 12 = .ok (.iconst 1, 1) := by decide +kernel
theorem dX0_acceptsLast_13 : decode cX0_acceptsLast 13 = .ok (.iconst 3, 1) := by decide +kernel
theorem dX0_acceptsLast_14 : decode cX0_acceptsLast 14 = .ok (.invokevirtual 28, 3) := by decide +kernel
theorem dX0_acceptsLast_17 : decode cX0_acceptsLast 17 = .ok (.ireturn, 1) := by decide +kernel
set_option maxRecDepth 20000 in
theorem ggX0_acceptsHint_X0_goesOn : GoodIn wsX0_acceptsHint wsX0_goesOn := goodIn_r _ [6, 7, 8, 9, 10, 11] (by decide +kernel) (by decide +kernel)
set_option maxRecDepth 20000 in
theorem gX0_acceptsHint_X0_goesOn : GoodIn wsX0_acceptsHint (wsV RX0 28 RX0 yX0_goesOn wsX0_goesOn) := goodIn_app (goodIn_of _ (by decide +kernel)) ggX0_acceptsHint_X0_goesOn
theorem dX0_acceptsHint_0 : decode cX0_acceptsHint 0 = .ok (.iload_n 1, 1) := by decide +kernel
theorem dX0_acceptsHint_1 : decode cX0_acceptsHint 1 = .ok (.iconst 4, 1) := by decide +kernel
theorem dX0_acceptsHint_2 : decode cX0_acceptsHint 2 = .ok (.if_icmp .lt 5, 3) := by decide +kernel
theorem dX0_acceptsHint_5 : decode cX0_acceptsHint 5 = .ok (.iconst 0, 1) := by decide +kernel
theorem dX0_acceptsHint_6 : decode cX0_acceptsHint 6 = .ok (.ireturn, 1) := by decide +kernel
theorem dX0_acceptsHint_7 : decode cX0_acceptsHint 7 = .ok (.aload_n 0, 1) := by decide +kernel
theorem dX0_acceptsHint_8 : decode cX0_acceptsHint 8 = .ok (.iload_n 1, 1) := by decide +kernel
theorem dX0_acceptsHint_9 : decode cX0_acceptsHint 9 = .ok (.putfield 21, 3) := by decide +kernel
theorem dX0_acceptsHint_12 : decode cX0_acceptsHint 12 = .ok (.aload_n 0, 1) := by decide +kernel
theorem dX0_acceptsHint_13 : decode cX0_acceptsHint 13 = .ok (.iconst 1, 1) := by decide +kernel
theorem dX0_acceptsHint_14 : decode cX0_acceptsHint 14 = .ok (.iconst 5, 1) := by decide +kernel
theorem dX0_acceptsHint_15 : decode cX0_acceptsHint 15 = .ok (.invokevirtual 28, 3) := by decide +kernel
theorem dX0_acceptsHint_18 : decode cX0_acceptsHint 18 = .ok (.ireturn, 1) := by decide +kernel
theorem dX0_goesOn_0 : decode cX0_goesOn 0 = .ok (.iload_n 1, 1) := by decide +kernel
theorem dX0_goesOn_1 : decode cX0_goesOn 1 = .ok (.ifCond .eq 8, 3) := by decide +kernel
theorem dX0_goesOn_4 : decode cX0_goesOn 4 = .ok (.aload_n 0, 1) := by decide +kernel
theorem dX0_goesOn_5 : decode cX0_goesOn 5 = .ok (.iload_n 2, 1) := by decide +kernel
theorem dX0_goesOn_6 : decode cX0_goesOn 6 = .ok (.putfield 11, 3) := by decide +kernel
theorem dX0_goesOn_9 : decode cX0_goesOn 9 = .ok (.iload_n 1, 1) := by decide +kernel
theorem dX0_goesOn_10 : decode cX0_goesOn 10 = .ok (.ireturn, 1) := by decide +kernel
theorem dX0_mayGrow_0 : decode cX0_mayGrow 0 = .ok (.iload_n 0, 1) := by decide +kernel
theorem dX0_mayGrow_1 : decode cX0_mayGrow 1 = .ok (.iconst 1, 1) := by decide +kernel
theorem dX0_mayGrow_2 : decode cX0_mayGrow 2 = .ok (.if_icmp .lt 12, 3) := by decide +kernel
theorem dX0_mayGrow_5 : decode cX0_mayGrow 5 = .ok (.iload_n 0, 1) := by decide +kernel
theorem dX0_mayGrow_6 : decode cX0_mayGrow 6 = .ok (.iconst 3, 1) := by decide +kernel
theorem dX0_mayGrow_7 : decode cX0_mayGrow 7 = .ok (.if_icmp .gt 7, 3) := by decide +kernel
theorem dX0_mayGrow_10 : decode cX0_mayGrow 10 = .ok (.iconst 1, 1) := by decide +kernel
theorem dX0_mayGrow_11 : decode cX0_mayGrow 11 = .ok (.goto 4, 3) := by decide +kernel
theorem dX0_mayGrow_14 : decode cX0_mayGrow 14 = .ok (.iconst 0, 1) := by decide +kernel
theorem dX0_mayGrow_15 : decode cX0_mayGrow 15 = .ok (.ireturn, 1) := by decide +kernel
set_option maxRecDepth 20000 in
theorem ggX1_init_J7_fill_53178 : GoodIn wsX1_init wsJ7_fill_53178 := goodIn_r _ [25] (by decide +kernel) (by decide +kernel)
set_option maxRecDepth 20000 in
theorem gX1_init_J7_fill_53178 : GoodIn wsX1_init (va_wsS RX1 64 yJ7_fill_53178 wsJ7_fill_53178) := goodIn_app (goodIn_of _ (by decide +kernel)) ggX1_init_J7_fill_53178
theorem dX1_init_0 : decode cX1_init 0 = .ok (.aload_n 0, 1) := by decide +kernel
theorem dX1_init_1 : decode cX1_init 1 = .ok (.invokespecial 3, 3) := by decide +kernel
theorem dX1_init_4 : decode cX1_init 4 = .ok (.aload_n 0, 1) := by decide +kernel
theorem dX1_init_5 : decode cX1_init 5 = .ok (.bipush 40, 2) := by decide +kernel
theorem dX1_init_7 : decode cX1_init 7 = .ok (.newarray .int, 2) := by decide +kernel
theorem dX1_init_9 : decode cX1_init 9 = .ok (.putfield 9, 3) := by decide +kernel
theorem dX1_init_12 : decode cX1_init 12 = .ok (.aload_n 0, 1) := by decide +kernel
theorem dX1_init_13 : decode cX1_init 13 = .ok (.bipush 40, 2) := by decide +kernel
theorem dX1_init_15 : decode cX1_init 15 = .ok (.newarray .int, 2) := by decide +kernel
theorem dX1_init_17 : decode cX1_init 17 = .ok (.putfield 15, 3) := by decide +kernel
theorem dX1_init_20 : decode cX1_init 20 = .ok (.aload_n 0, 1) := by decide +kernel
theorem dX1_init_21 : decode cX1_init 21 = .ok (.bipush 40, 2) := by decide +kernel
theorem dX1_init_23 : decode cX1_init 23 = .ok (.newarray .int, 2) := by decide +kernel
theorem dX1_init_25 : decode cX1_init 25 = .ok (.putfield 18, 3) := by decide +kernel
theorem dX1_init_28 : decode cX1_init 28 = .ok (.aload_n 0, 1) := by decide +kernel
theorem dX1_init_29 : decode cX1_init 29 = .ok (.bipush 40, 2) := by decide +kernel
theorem dX1_init_31 : decode cX1_init 31 = .ok (.newarray .int, 2) := by decide +kernel
theorem dX1_init_33 : decode cX1_init 33 = .ok (.putfield 21, 3) := by decide +kernel
theorem dX1_init_36 : decode cX1_init 36 = .ok (.aload_n 0, 1) := by decide +kernel
theorem dX1_init_37 : decode cX1_init 37 = .ok (.bipush 40, 2) := by decide +kernel
theorem dX1_init_39 : decode cX1_init 39 = .ok (.newarray .int, 2) := by decide +kernel
theorem dX1_init_41 : decode cX1_init 41 = .ok (.putfield 24, 3) := by decide +kernel
theorem dX1_init_44 : decode cX1_init 44 = .ok (.aload_n 0, 1) := by decide +kernel
theorem dX1_init_45 : decode cX1_init 45 = .ok (.bipush 96, 2) := by decide +kernel
theorem dX1_init_47 : decode cX1_init 47 = .ok (.newarray .int, 2) := by decide +kernel
theorem dX1_init_49 : decode cX1_init 49 = .ok (.putfield 27, 3) := by decide +kernel
theorem dX1_init_52 : decode cX1_init 52 = .ok (.aload_n 0, 1) := by decide +kernel
theorem dX1_init_53 : decode cX1_init 53 = .ok (.bipush 12, 2) := by decide +kernel
theorem dX1_init_55 : decode cX1_init 55 = .ok (.newarray .int, 2) := by decide +kernel
theorem dX1_init_57 : decode cX1_init 57 = .ok (.putfield 30, 3) := by decide +kernel
theorem dX1_init_60 : decode cX1_init 60 = .ok (.aload_n 0, 1) := by decide +kernel
theorem dX1_init_61 : decode cX1_init 61 = .ok (.bipush 12, 2) := by decide +kernel
theorem dX1_init_63 : decode cX1_init 63 = .ok (.newarray .int, 2) := by decide +kernel
theorem dX1_init_65 : decode cX1_init 65 = .ok (.putfield 33, 3) := by decide +kernel
theorem dX1_init_68 : decode cX1_init 68 = .ok (.aload_n 0, 1) := by decide +kernel
theorem dX1_init_69 : decode cX1_init 69 = .ok (.bipush 12, 2) := by decide +kernel
theorem dX1_init_71 : decode cX1_init 71 = .ok (.newarray .int, 2) := by decide +kernel
theorem dX1_init_73 : decode cX1_init 73 = .ok (.putfield 36, 3) := by decide +kernel
theorem dX1_init_76 : decode cX1_init 76 = .ok (.aload_n 0, 1) := by decide +kernel
theorem dX1_init_77 : decode cX1_init 77 = .ok (.bipush 12, 2) := by decide +kernel
theorem dX1_init_79 : decode cX1_init 79 = .ok (.newarray .int, 2) := by decide +kernel
theorem dX1_init_81 : decode cX1_init 81 = .ok (.putfield 39, 3) := by decide +kernel
theorem dX1_init_84 : decode cX1_init 84 = .ok (.aload_n 0, 1) := by decide +kernel
theorem dX1_init_85 : decode cX1_init 85 = .ok (.bipush 12, 2) := by decide +kernel
theorem dX1_init_87 : decode cX1_init 87 = .ok (.newarray .int, 2) := by decide +kernel
theorem dX1_init_89 : decode cX1_init 89 = .ok (.putfield 42, 3) := by decide +kernel
theorem dX1_init_92 : decode cX1_init 92 = .ok (.aload_n 0, 1) := by decide +kernel
theorem dX1_init_93 : decode cX1_init 93 = .ok (.iconst 5, 1) := by decide +kernel
theorem dX1_init_94 : decode cX1_init 94 = .ok (.newarray .int, 2) := by decide +kernel
theorem dX1_init_96 : decode cX1_init 96 = .ok (.putfield 45, 3) := by decide +kernel
theorem dX1_init_99 : decode cX1_init 99 = .ok (.aload_n 0, 1) := by decide +kernel
theorem dX1_init_100 : decode cX1_init 100 = .ok (.iconst 5, 1) := by decide +kernel
theorem dX1_init_101 : decode cX1_init 101 = .ok (.newarray .int, 2) := by decide +kernel
theorem dX1_init_103 : decode cX1_init 103 = .ok (.putfield 48, 3) := by decide +kernel
theorem dX1_init_106 : decode cX1_init 106 = .ok (.aload_n 0, 1) := by decide +kernel
theorem dX1_init_107 : decode cX1_init 107 = .ok (.iconst 5, 1) := by decide +kernel
theorem dX1_init_108 : decode cX1_init 108 = .ok (.newarray .int, 2) := by decide +kernel
theorem dX1_init_110 : decode cX1_init 110 = .ok (.putfield 51, 3) := by decide +kernel
theorem dX1_init_113 : decode cX1_init 113 = .ok (.aload_n 0, 1) := by decide +kernel
theorem dX1_init_114 : decode cX1_init 114 = .ok (.iconst 2, 1) := by decide +kernel
theorem dX1_init_115 : decode cX1_init 115 = .ok (.newarray .int, 2) := by decide +kernel
theorem dX1_init_117 : decode cX1_init 117 = .ok (.putfield 54, 3) := by decide +kernel
theorem dX1_init_120 : decode cX1_init 120 = .ok (.aload_n 0, 1) := by decide +kernel
theorem dX1_init_121 : decode cX1_init 121 = .ok (.bipush 12, 2) := by decide +kernel
theorem dX1_init_123 : decode cX1_init 123 = .ok (.putfield 57, 3) := by decide +kernel
theorem dX1_init_126 : decode cX1_init 126 = .ok (.aload_n 0, 1) := by decide +kernel
theorem dX1_init_127 : decode cX1_init 127 = .ok (.iconst 0, 1) := by decide +kernel
theorem dX1_init_128 : decode cX1_init 128 = .ok (.putfield 61, 3) := by decide +kernel
theorem dX1_init_131 : decode cX1_init 131 = .ok (.aload_n 0, 1) := by decide +kernel
theorem dX1_init_132 : decode cX1_init 132 = .ok (.getfield 9, 3) := by decide +kernel
theorem dX1_init_135 : decode cX1_init 135 = .ok (.iconst (-1), 1) := by decide +kernel
theorem dX1_init_136 : decode cX1_init 136 = .ok (.invokestatic 64, 3) := by decide +kernel
theorem dX1_init_139 : decode cX1_init 139 = .ok (.aload_n 0, 1) := by decide +kernel
theorem dX1_init_140 : decode cX1_init 140 = .ok (.getfield 27, 3) := by decide +kernel
theorem dX1_init_143 : decode cX1_init 143 = .ok (.iconst (-1), 1) := by decide +kernel
theorem dX1_init_144 : decode cX1_init 144 = .ok (.invokestatic 64, 3) := by decide +kernel
theorem dX1_init_147 : decode cX1_init 147 = .ok (.aload_n 0, 1) := by decide +kernel
theorem dX1_init_148 : decode cX1_init 148 = .ok (.getfield 30, 3) := by decide +kernel
theorem dX1_init_151 : decode cX1_init 151 = .ok (.iconst (-1), 1) := by decide +kernel
theorem dX1_init_152 : decode cX1_init 152 = .ok (.invokestatic 64, 3) := by decide +kernel
theorem dX1_init_155 : decode cX1_init 155 = .ok (.aload_n 0, 1) := by decide +kernel
theorem dX1_init_156 : decode cX1_init 156 = .ok (.getfield 45, 3) := by decide +kernel
theorem dX1_init_159 : decode cX1_init 159 = .ok (.iconst (-1), 1) := by decide +kernel
theorem dX1_init_160 : decode cX1_init 160 = .ok (.invokestatic 64, 3) := by decide +kernel
theorem dX1_init_163 : decode cX1_init 163 = .ok (.aload_n 0, 1) := by decide +kernel
theorem dX1_init_164 : decode cX1_init 164 = .ok (.getfield 54, 3) := by decide +kernel
theorem dX1_init_167 : decode cX1_init 167 = .ok (.iconst 1, 1) := by decide +kernel
theorem dX1_init_168 : decode cX1_init 168 = .ok (.iconst 2, 1) := by decide +kernel
theorem dX1_init_169 : decode cX1_init 169 = .ok (.iastore, 1) := by decide +kernel
theorem dX1_init_170 : decode cX1_init 170 = .ok (.return_, 1) := by decide +kernel
set_option maxRecDepth 20000 in
theorem ggX1_becomeLike_X1_copyRow : GoodIn wsX1_becomeLike wsX1_copyRow := goodIn_r _ [21, 22, 23, 24, 25, 26, 27, 28, 29] (by decide +kernel) (by decide +kernel)
set_option maxRecDepth 20000 in
theorem gX1_becomeLike_X1_copyRow : GoodIn wsX1_becomeLike (va_wsS RX1 70 yX1_copyRow wsX1_copyRow) := goodIn_app (goodIn_of _ (by decide +kernel)) ggX1_becomeLike_X1_copyRow
theorem dX1_becomeLike_0 : decode cX1_becomeLike 0 = .ok (.aload_n 1, 1) := by decide +kernel
theorem dX1_becomeLike_1 : decode cX1_becomeLike 1 = .ok (.getfield 9, 3) := by decide +kernel
theorem dX1_becomeLike_4 : decode cX1_becomeLike 4 = .ok (.aload_n 0, 1) := by decide +kernel
theorem dX1_becomeLike_5 : decode cX1_becomeLike 5 = .ok (.getfield 9, 3) := by decide +kernel
theorem dX1_becomeLike_8 : decode cX1_becomeLike 8 = .ok (.invokestatic 70, 3) := by decide +kernel
theorem dX1_becomeLike_11 : decode cX1_becomeLike 11 = .ok (.aload_n 1, 1) := by decide +kernel
theorem dX1_becomeLike_12 : decode cX1_becomeLike 12 = .ok (.getfield 15, 3) := by decide +kernel
theorem dX1_becomeLike_15 : decode cX1_becomeLike 15 = .ok (.aload_n 0, 1) := by decide +kernel
theorem dX1_becomeLike_16 : decode cX1_becomeLike 16 = .ok (.getfield 15, 3) := by decide +kernel
theorem dX1_becomeLike_19 : decode cX1_becomeLike 19 = .ok (.invokestatic 70, 3) := by decide +kernel
theorem dX1_becomeLike_22 : decode cX1_becomeLike 22 = .ok (.aload_n 1, 1) := by decide +kernel
theorem dX1_becomeLike_23 : decode cX1_becomeLike 23 = .ok (.getfield 18, 3) := by decide +kernel
theorem dX1_becomeLike_26 : decode cX1_becomeLike 26 = .ok (.aload_n 0, 1) := by decide +kernel
theorem dX1_becomeLike_27 : decode cX1_becomeLike 27 = .ok (.getfield 18, 3) := by decide +kernel
theorem dX1_becomeLike_30 : decode cX1_becomeLike 30 = .ok (.invokestatic 70, 3) := by decide +kernel
theorem dX1_becomeLike_33 : decode cX1_becomeLike 33 = .ok (.aload_n 1, 1) := by decide +kernel
theorem dX1_becomeLike_34 : decode cX1_becomeLike 34 = .ok (.getfield 21, 3) := by decide +kernel
theorem dX1_becomeLike_37 : decode cX1_becomeLike 37 = .ok (.aload_n 0, 1) := by decide +kernel
theorem dX1_becomeLike_38 : decode cX1_becomeLike 38 = .ok (.getfield 21, 3) := by decide +kernel
theorem dX1_becomeLike_41 : decode cX1_becomeLike 41 = .ok (.invokestatic 70, 3) := by decide +kernel
theorem dX1_becomeLike_44 : decode cX1_becomeLike 44 = .ok (.aload_n 1, 1) := by decide +kernel
theorem dX1_becomeLike_45 : decode cX1_becomeLike 45 = .ok (.getfield 24, 3) := by decide +kernel
theorem dX1_becomeLike_48 : decode cX1_becomeLike 48 = .ok (.aload_n 0, 1) := by decide +kernel
theorem dX1_becomeLike_49 : decode cX1_becomeLike 49 = .ok (.getfield 24, 3) := by decide +kernel
theorem dX1_becomeLike_52 : decode cX1_becomeLike 52 = .ok (.invokestatic 70, 3) := by decide +kernel
theorem dX1_becomeLike_55 : decode cX1_becomeLike 55 = .ok (.aload_n 1, 1) := by decide +kernel
theorem dX1_becomeLike_56 : decode cX1_becomeLike 56 = .ok (.getfield 27, 3) := by decide +kernel
theorem dX1_becomeLike_59 : decode cX1_becomeLike 59 = .ok (.aload_n 0, 1) := by decide +kernel
theorem dX1_becomeLike_60 : decode cX1_becomeLike 60 = .ok (.getfield 27, 3) := by decide +kernel
theorem dX1_becomeLike_63 : decode cX1_becomeLike 63 = .ok (.invokestatic 70, 3) := by decide +kernel
theorem dX1_becomeLike_66 : decode cX1_becomeLike 66 = .ok (.aload_n 1, 1) := by decide +kernel
theorem dX1_becomeLike_67 : decode cX1_becomeLike 67 = .ok (.getfield 30, 3) := by decide +kernel
theorem dX1_becomeLike_70 : decode cX1_becomeLike 70 = .ok (.aload_n 0, 1) := by decide +kernel
theorem dX1_becomeLike_71 : decode cX1_becomeLike 71 = .ok (.getfield 30, 3) := by decide +kernel
theorem dX1_becomeLike_74 : decode cX1_becomeLike 74 = .ok (.invokestatic 70, 3) := by decide +kernel
theorem dX1_becomeLike_77 : decode cX1_becomeLike 77 = .ok (.aload_n 1, 1) := by decide +kernel
theorem dX1_becomeLike_78 : decode cX1_becomeLike 78 = .ok (.getfield 33, 3) := by decide +kernel
theorem dX1_becomeLike_81 : decode cX1_becomeLike 81 = .ok (.aload_n 0, 1) := by decide +kernel
theorem dX1_becomeLike_82 : decode cX1_becomeLike 82 = .ok (.getfield 33, 3) := by decide +kernel
theorem dX1_becomeLike_85 : decode cX1_becomeLike 85 = .ok (.invokestatic 70, 3) := by decide +kernel
theorem dX1_becomeLike_88 : decode cX1_becomeLike 88 = .ok (.aload_n 1, 1) := by decide +kernel
theorem dX1_becomeLike_89 : decode cX1_becomeLike 89 = .ok (.getfield 36, 3) := by decide +kernel
theorem dX1_becomeLike_92 : decode cX1_becomeLike 92 = .ok (.aload_n 0, 1) := by decide +kernel
theorem dX1_becomeLike_93 : decode cX1_becomeLike 93 = .ok (.getfield 36, 3) := by decide +kernel
theorem dX1_becomeLike_96 : decode cX1_becomeLike 96 = .ok (.invokestatic 70, 3) := by decide +kernel
theorem dX1_becomeLike_99 : decode cX1_becomeLike 99 = .ok (.aload_n 1, 1) := by decide +kernel
theorem dX1_becomeLike_100 : decode cX1_becomeLike 100 = .ok (.getfield 39, 3) := by decide +kernel
theorem dX1_becomeLike_103 : decode cX1_becomeLike 103 = .ok (.aload_n 0, 1) := by decide +kernel
theorem dX1_becomeLike_104 : decode cX1_becomeLike 104 = .ok (.getfield 39, 3) := by decide +kernel
theorem dX1_becomeLike_107 : decode cX1_becomeLike 107 = .ok (.invokestatic 70, 3) := by decide +kernel
theorem dX1_becomeLike_110 : decode cX1_becomeLike 110 = .ok (.aload_n 1, 1) := by decide +kernel
theorem dX1_becomeLike_111 : decode cX1_becomeLike 111 = .ok (.getfield 42, 3) := by decide +kernel
theorem dX1_becomeLike_114 : decode cX1_becomeLike 114 = .ok (.aload_n 0, 1) := by decide +kernel
theorem dX1_becomeLike_115 : decode cX1_becomeLike 115 = .ok (.getfield 42, 3) := by decide +kernel
theorem dX1_becomeLike_118 : decode cX1_becomeLike 118 = .ok (.invokestatic 70, 3) := by decide +kernel
theorem dX1_becomeLike_121 : decode cX1_becomeLike 121 = .ok (.aload_n 1, 1) := by decide +kernel
theorem dX1_becomeLike_122 : decode cX1_becomeLike 122 = .ok (.getfield 45, 3) := by decide +kernel
theorem dX1_becomeLike_125 : decode cX1_becomeLike 125 = .ok (.aload_n 0, 1) := by decide +kernel
theorem dX1_becomeLike_126 : decode cX1_becomeLike 126 = .ok (.getfield 45, 3) := by decide +kernel
theorem dX1_becomeLike_129 : decode cX1_becomeLike 129 = .ok (.invokestatic 70, 3) := by decide +kernel
theorem dX1_becomeLike_132 : decode cX1_becomeLike 132 = .ok (.aload_n 1, 1) := by decide +kernel
theorem dX1_becomeLike_133 : decode cX1_becomeLike 133 = .ok (.getfield 48, 3) := by decide +kernel
theorem dX1_becomeLike_136 : decode cX1_becomeLike 136 = .ok (.aload_n 0, 1) := by decide +kernel
theorem dX1_becomeLike_137 : decode cX1_becomeLike 137 = .ok (.getfield 48, 3) := by decide +kernel
theorem dX1_becomeLike_140 : decode cX1_becomeLike 140 = .ok (.invokestatic 70, 3) := by decide +kernel
theorem dX1_becomeLike_143 : decode cX1_becomeLike 143 = .ok (.aload_n 1, 1) := by decide +kernel
theorem dX1_becomeLike_144 : decode cX1_becomeLike 144 = .ok (.getfield 51, 3) := by decide +kernel
theorem dX1_becomeLike_147 : decode cX1_becomeLike 147 = .ok (.aload_n 0, 1) := by decide +kernel
theorem dX1_becomeLike_148 : decode cX1_becomeLike 148 = .ok (.getfield 51, 3) := by decide +kernel
theorem dX1_becomeLike_151 : decode cX1_becomeLike 151 = .ok (.invokestatic 70, 3) := by decide +kernel
theorem dX1_becomeLike_154 : decode cX1_becomeLike 154 = .ok (.aload_n 1, 1) := by decide +kernel
theorem dX1_becomeLike_155 : decode cX1_becomeLike 155 = .ok (.getfield 54, 3) := by decide +kernel
theorem dX1_becomeLike_158 : decode cX1_becomeLike 158 = .ok (.aload_n 0, 1) := by decide +kernel
theorem dX1_becomeLike_159 : decode cX1_becomeLike 159 = .ok (.getfield 54, 3) := by decide +kernel
theorem dX1_becomeLike_162 : decode cX1_becomeLike 162 = .ok (.invokestatic 70, 3) := by decide +kernel
theorem dX1_becomeLike_165 : decode cX1_becomeLike 165 = .ok (.aload_n 0, 1) := by decide +kernel
theorem dX1_becomeLike_166 : decode cX1_becomeLike 166 = .ok (.aload_n 1, 1) := by decide +kernel
theorem dX1_becomeLike_167 : decode cX1_becomeLike 167 = .ok (.getfield 57, 3) := by decide +kernel
theorem dX1_becomeLike_170 : decode cX1_becomeLike 170 = .ok (.putfield 57, 3) := by decide +kernel
theorem dX1_becomeLike_173 : decode cX1_becomeLike 173 = .ok (.aload_n 0, 1) := by decide +kernel
theorem dX1_becomeLike_174 : decode cX1_becomeLike 174 = .ok (.aload_n 1, 1) := by decide +kernel
theorem dX1_becomeLike_175 : decode cX1_becomeLike 175 = .ok (.getfield 61, 3) := by decide +kernel
theorem dX1_becomeLike_178 : decode cX1_becomeLike 178 = .ok (.putfield 61, 3) := by decide +kernel
theorem dX1_becomeLike_181 : decode cX1_becomeLike 181 = .ok (.return_, 1) := by decide +kernel
theorem dX1_copyRow_0 : decode cX1_copyRow 0 = .ok (.aload_n 0, 1) := by decide +kernel
theorem dX1_copyRow_1 : decode cX1_copyRow 1 = .ok (.iconst 0, 1) := by decide +kernel
theorem dX1_copyRow_2 : decode cX1_copyRow 2 = .ok (.aload_n 1, 1) := by decide +kernel
theorem dX1_copyRow_3 : decode cX1_copyRow 3 = .ok (.iconst 0, 1) := by decide +kernel
theorem dX1_copyRow_4 : decode cX1_copyRow 4 = .ok (.aload_n 0, 1) := by decide +kernel
theorem dX1_copyRow_5 : decode cX1_copyRow 5 = .ok (.arraylength, 1) := by decide +kernel
theorem dX1_copyRow_6 : decode cX1_copyRow 6 = .ok (.aload_n 1, 1) := by decide +kernel
theorem dX1_copyRow_7 : decode cX1_copyRow 7 = .ok (.arraylength, 1) := by decide +kernel
theorem dX1_copyRow_8 : decode cX1_copyRow 8 = .ok (.invokestatic 74, 3) := by decide +kernel
theorem dX1_copyRow_11 : decode cX1_copyRow 11 = .ok (.invokestatic 80, 3) := by decide +kernel
theorem dX1_copyRow_14 : decode cX1_copyRow 14 = .ok (.return_, 1) := by decide +kernel
set_option maxRecDepth 20000 in
theorem ggX1_writePages_X1_copies : GoodIn wsX1_writePages wsX1_copies := goodIn_r _ [5, 6, 60, 61, 62, 63, 64, 65, 66, 67, 68, 69, 70, 71, 72, 73, 74, 75, 76] (by decide +kernel) (by decide +kernel)
set_option maxRecDepth 20000 in
theorem gX1_writePages_X1_copies : GoodIn wsX1_writePages (wsV RX1 86 RX1 yX1_copies wsX1_copies) := goodIn_app (goodIn_of _ (by decide +kernel)) ggX1_writePages_X1_copies
set_option maxRecDepth 20000 in
theorem ggX1_writePages_X1_writePage : GoodIn wsX1_writePages wsX1_writePage := goodIn_r _ [10, 11, 12, 13, 14, 15, 16, 17, 4, 18, 19, 20, 21, 22, 23, 24, 25, 26, 27, 28, 29, 30, 31, 32, 33, 34, 35, 36, 37, 38, 39, 40, 41, 42, 43, 44, 45, 46, 47, 48, 49, 50, 51, 52, 53, 54, 6, 55, 56, 57, 58, 59, 60, 61, 62, 63, 64, 65, 66, 67, 68, 69, 70, 71, 72, 73, 74, 75, 76] (by decide +kernel) (by decide +kernel)
set_option maxRecDepth 20000 in
theorem gX1_writePages_X1_writePage : GoodIn wsX1_writePages (wsV RX1 90 RX1 yX1_writePage wsX1_writePage) := goodIn_app (goodIn_of _ (by decide +kernel)) ggX1_writePages_X1_writePage
theorem dX1_writePages_0 : decode cX1_writePages 0 = .ok (.aload_n 0, 1) := by decide +kernel
theorem dX1_writePages_1 : decode cX1_writePages 1 = .ok (.invokevirtual 86, 3) := by decide +kernel
theorem dX1_writePages_4 : decode cX1_writePages 4 = .ok (.istore 4, 2) := by decide +kernel
theorem dX1_writePages_6 : decode cX1_writePages 6 = .ok (.iload_n 1, 1) := by decide +kernel
theorem dX1_writePages_7 : decode cX1_writePages 7 = .ok (.istore 5, 2) := by decide +kernel
theorem dX1_writePages_9 : decode cX1_writePages 9 = .ok (.iload 5, 2) := by decide +kernel
theorem dX1_writePages_11 : decode cX1_writePages 11 = .ok (.iload_n 2, 1) := by decide +kernel
theorem dX1_writePages_12 : decode cX1_writePages 12 = .ok (.if_icmp .gt 23, 3) := by decide +kernel
theorem dX1_writePages_15 : decode cX1_writePages 15 = .ok (.iload 5, 2) := by decide +kernel
theorem dX1_writePages_17 : decode cX1_writePages 17 = .ok (.bipush 40, 2) := by decide +kernel
theorem dX1_writePages_19 : decode cX1_writePages 19 = .ok (.if_icmp .ge 16, 3) := by decide +kernel
theorem dX1_writePages_22 : decode cX1_writePages 22 = .ok (.aload_n 0, 1) := by decide +kernel
theorem dX1_writePages_23 : decode cX1_writePages 23 = .ok (.iload 5, 2) := by decide +kernel
theorem dX1_writePages_25 : decode cX1_writePages 25 = .ok (.iload_n 3, 1) := by decide +kernel
theorem dX1_writePages_26 : decode cX1_writePages 26 = .ok (.invokevirtual 90, 3) := by decide +kernel
theorem dX1_writePages_29 : decode cX1_writePages 29 = .ok (.iinc 5 1, 3) := by decide +kernel
theorem dX1_writePages_32 : decode cX1_writePages 32 = .ok (.goto (-23), 3) := by decide +kernel
theorem dX1_writePages_35 : decode cX1_writePages 35 = .ok (.aload_n 0, 1) := by decide +kernel
theorem dX1_writePages_36 : decode cX1_writePages 36 = .ok (.invokevirtual 86, 3) := by decide +kernel
theorem dX1_writePages_39 : decode cX1_writePages 39 = .ok (.iload 4, 2) := by decide +kernel
theorem dX1_writePages_41 : decode cX1_writePages 41 = .ok (.isub, 1) := by decide +kernel
theorem dX1_writePages_42 : decode cX1_writePages 42 = .ok (.ireturn, 1) := by decide +kernel
set_option maxRecDepth 20000 in
theorem ggX1_writePage_X1_collectVictims : GoodIn wsX1_writePage wsX1_collectVictims := goodIn_r _ [9, 10, 11, 12, 13, 14, 8, 15, 16, 17, 18, 19, 20, 21, 1, 22, 23, 24, 25, 26, 27, 28, 3, 29, 2, 30, 31, 32, 33, 34, 35, 36, 37, 38, 39, 40, 41, 42, 43, 44, 45, 46, 47, 48, 49, 50, 51, 52, 53, 54, 55, 56, 57, 58, 59, 60, 61, 62, 63, 64, 65, 66, 67, 68] (by decide +kernel) (by decide +kernel)
set_option maxRecDepth 20000 in
theorem gX1_writePage_X1_collectVictims : GoodIn wsX1_writePage (wsV RX1 94 RX1 yX1_collectVictims wsX1_collectVictims) := goodIn_app (goodIn_of _ (by decide +kernel)) ggX1_writePage_X1_collectVictims
set_option maxRecDepth 20000 in
theorem ggX1_writePage_X1_openBlock : GoodIn wsX1_writePage wsX1_openBlock := goodIn_r _ [39, 40, 41, 23, 10, 52, 53, 54, 55, 56, 57, 58, 59, 60, 61, 62, 63, 64, 65, 66, 67, 68] (by decide +kernel) (by decide +kernel)
set_option maxRecDepth 20000 in
theorem gX1_writePage_X1_openBlock : GoodIn wsX1_writePage (wsV RX1 98 RX1 yX1_openBlock wsX1_openBlock) := goodIn_app (goodIn_of _ (by decide +kernel)) ggX1_writePage_X1_openBlock
set_option maxRecDepth 20000 in
theorem ggX1_writePage_X1_program : GoodIn wsX1_writePage wsX1_program := goodIn_r _ [45, 16, 35, 17, 34, 46, 40, 22, 47, 52, 53, 54, 55, 56, 57, 58, 59, 60, 61, 62, 63, 64, 65, 66, 67, 68] (by decide +kernel) (by decide +kernel)
set_option maxRecDepth 20000 in
theorem gX1_writePage_X1_program : GoodIn wsX1_writePage (wsV RX1 101 RX1 yX1_program wsX1_program) := goodIn_app (goodIn_of _ (by decide +kernel)) ggX1_writePage_X1_program
theorem dX1_writePage_0 : decode cX1_writePage 0 = .ok (.aload_n 0, 1) := by decide +kernel
theorem dX1_writePage_1 : decode cX1_writePage 1 = .ok (.aload_n 0, 1) := by decide +kernel
theorem dX1_writePage_2 : decode cX1_writePage 2 = .ok (.getfield 54, 3) := by decide +kernel
theorem dX1_writePage_5 : decode cX1_writePage 5 = .ok (.iconst 1, 1) := by decide +kernel
theorem dX1_writePage_6 : decode cX1_writePage 6 = .ok (.iaload, 1) := by decide +kernel
theorem dX1_writePage_7 : decode cX1_writePage 7 = .ok (.invokevirtual 94, 3) := by decide +kernel
theorem dX1_writePage_10 : decode cX1_writePage 10 = .ok (.pop, 1) := by decide +kernel
theorem dX1_writePage_11 : decode cX1_writePage 11 = .ok (.aload_n 0, 1) := by decide +kernel
theorem dX1_writePage_12 : decode cX1_writePage 12 = .ok (.getfield 15, 3) := by decide +kernel
theorem dX1_writePage_15 : decode cX1_writePage 15 = .ok (.iload_n 1, 1) := by decide +kernel
theorem dX1_writePage_16 : decode cX1_writePage 16 = .ok (.iload_n 2, 1) := by decide +kernel
theorem dX1_writePage_17 : decode cX1_writePage 17 = .ok (.iastore, 1) := by decide +kernel
theorem dX1_writePage_18 : decode cX1_writePage 18 = .ok (.aload_n 0, 1) := by decide +kernel
theorem dX1_writePage_19 : decode cX1_writePage 19 = .ok (.getfield 24, 3) := by decide +kernel
theorem dX1_writePage_22 : decode cX1_writePage 22 = .ok (.iload_n 1, 1) := by decide +kernel
theorem dX1_writePage_23 : decode cX1_writePage 23 = .ok (.iconst 0, 1) := by decide +kernel
theorem dX1_writePage_24 : decode cX1_writePage 24 = .ok (.iastore, 1) := by decide +kernel
theorem dX1_writePage_25 : decode cX1_writePage 25 = .ok (.aload_n 0, 1) := by decide +kernel
theorem dX1_writePage_26 : decode cX1_writePage 26 = .ok (.getfield 18, 3) := by decide +kernel
theorem dX1_writePage_29 : decode cX1_writePage 29 = .ok (.iload_n 1, 1) := by decide +kernel
theorem dX1_writePage_30 : decode cX1_writePage 30 = .ok (.dup2, 1) := by decide +kernel
theorem dX1_writePage_31 : decode cX1_writePage 31 = .ok (.iaload, 1) := by decide +kernel
theorem dX1_writePage_32 : decode cX1_writePage 32 = .ok (.iconst 1, 1) := by decide +kernel
theorem dX1_writePage_33 : decode cX1_writePage 33 = .ok (.iadd, 1) := by decide +kernel
theorem dX1_writePage_34 : decode cX1_writePage 34 = .ok (.iastore, 1) := by decide +kernel
theorem dX1_writePage_35 : decode cX1_writePage 35 = .ok (.aload_n 0, 1) := by decide +kernel
theorem dX1_writePage_36 : decode cX1_writePage 36 = .ok (.iload_n 1, 1) := by decide +kernel
theorem dX1_writePage_37 : decode cX1_writePage 37 = .ok (.iload_n 2, 1) := by decide +kernel
theorem dX1_writePage_38 : decode cX1_writePage 38 = .ok (.aload_n 0, 1) := by decide +kernel
theorem dX1_writePage_39 : decode cX1_writePage 39 = .ok (.iload_n 2, 1) := by decide +kernel
theorem dX1_writePage_40 : decode cX1_writePage 40 = .ok (.invokevirtual 98, 3) := by decide +kernel
theorem dX1_writePage_43 : decode cX1_writePage 43 = .ok (.invokevirtual 101, 3) := by decide +kernel
theorem dX1_writePage_46 : decode cX1_writePage 46 = .ok (.return_, 1) := by decide +kernel
theorem dX1_forget_0 : decode cX1_forget 0 = .ok (.aload_n 0, 1) := by decide +kernel
theorem dX1_forget_1 : decode cX1_forget 1 = .ok (.getfield 9, 3) := by decide +kernel
theorem dX1_forget_4 : decode cX1_forget 4 = .ok (.iload_n 1, 1) := by decide +kernel
theorem dX1_forget_5 : decode cX1_forget 5 = .ok (.iaload, 1) := by decide +kernel
theorem dX1_forget_6 : decode cX1_forget 6 = .ok (.istore_n 2, 1) := by decide +kernel
theorem dX1_forget_7 : decode cX1_forget 7 = .ok (.iload_n 2, 1) := by decide +kernel
theorem dX1_forget_8 : decode cX1_forget 8 = .ok (.iconst (-1), 1) := by decide +kernel
theorem dX1_forget_9 : decode cX1_forget 9 = .ok (.if_icmp .eq 16, 3) := by decide +kernel
theorem dX1_forget_12 : decode cX1_forget 12 = .ok (.aload_n 0, 1) := by decide +kernel
theorem dX1_forget_13 : decode cX1_forget 13 = .ok (.getfield 36, 3) := by decide +kernel
theorem dX1_forget_16 : decode cX1_forget 16 = .ok (.iload_n 2, 1) := by decide +kernel
theorem dX1_forget_17 : decode cX1_forget 17 = .ok (.bipush 8, 2) := by decide +kernel
theorem dX1_forget_19 : decode cX1_forget 19 = .ok (.idiv, 1) := by decide +kernel
theorem dX1_forget_20 : decode cX1_forget 20 = .ok (.dup2, 1) := by decide +kernel
theorem dX1_forget_21 : decode cX1_forget 21 = .ok (.iaload, 1) := by decide +kernel
theorem dX1_forget_22 : decode cX1_forget 22 = .ok (.iconst 1, 1) := by decide +kernel
theorem dX1_forget_23 : decode cX1_forget 23 = .ok (.isub, 1) := by decide +kernel
theorem dX1_forget_24 : decode cX1_forget 24 = .ok (.iastore, 1) := by decide +kernel
theorem dX1_forget_25 : decode cX1_forget 25 = .ok (.aload_n 0, 1) := by decide +kernel
theorem dX1_forget_26 : decode cX1_forget 26 = .ok (.getfield 9, 3) := by decide +kernel
theorem dX1_forget_29 : decode cX1_forget 29 = .ok (.iload_n 1, 1) := by decide +kernel
theorem dX1_forget_30 : decode cX1_forget 30 = .ok (.iconst (-1), 1) := by decide +kernel
theorem dX1_forget_31 : decode cX1_forget 31 = .ok (.iastore, 1) := by decide +kernel
theorem dX1_forget_32 : decode cX1_forget 32 = .ok (.aload_n 0, 1) := by decide +kernel
theorem dX1_forget_33 : decode cX1_forget 33 = .ok (.getfield 24, 3) := by decide +kernel
theorem dX1_forget_36 : decode cX1_forget 36 = .ok (.iload_n 1, 1) := by decide +kernel
theorem dX1_forget_37 : decode cX1_forget 37 = .ok (.iconst 0, 1) := by decide +kernel
theorem dX1_forget_38 : decode cX1_forget 38 = .ok (.iastore, 1) := by decide +kernel
theorem dX1_forget_39 : decode cX1_forget 39 = .ok (.return_, 1) := by decide +kernel
theorem dX1_openBlock_0 : decode cX1_openBlock 0 = .ok (.aload_n 0, 1) := by decide +kernel
theorem dX1_openBlock_1 : decode cX1_openBlock 1 = .ok (.getfield 45, 3) := by decide +kernel
theorem dX1_openBlock_4 : decode cX1_openBlock 4 = .ok (.iload_n 1, 1) := by decide +kernel
theorem dX1_openBlock_5 : decode cX1_openBlock 5 = .ok (.iaload, 1) := by decide +kernel
theorem dX1_openBlock_6 : decode cX1_openBlock 6 = .ok (.iconst (-1), 1) := by decide +kernel
theorem dX1_openBlock_7 : decode cX1_openBlock 7 = .ok (.if_icmp .eq 10, 3) := by decide +kernel
theorem dX1_openBlock_10 : decode cX1_openBlock 10 = .ok (.aload_n 0, 1) := by decide +kernel
theorem dX1_openBlock_11 : decode cX1_openBlock 11 = .ok (.getfield 45, 3) := by decide +kernel
theorem dX1_openBlock_14 : decode cX1_openBlock 14 = .ok (.iload_n 1, 1) := by decide +kernel
theorem dX1_openBlock_15 : decode cX1_openBlock 15 = .ok (.iaload, 1) := by decide +kernel
theorem dX1_openBlock_16 : decode cX1_openBlock 16 = .ok (.ireturn, 1) := by decide +kernel
theorem dX1_openBlock_17 : decode cX1_openBlock 17 = .ok (.iconst (-1), 1) := by decide +kernel
theorem dX1_openBlock_18 : decode cX1_openBlock 18 = .ok (.istore_n 2, 1) := by decide +kernel
theorem dX1_openBlock_19 : decode cX1_openBlock 19 = .ok (.iconst 0, 1) := by decide +kernel
theorem dX1_openBlock_20 : decode cX1_openBlock 20 = .ok (.istore_n 3, 1) := by decide +kernel
theorem dX1_openBlock_21 : decode cX1_openBlock 21 = .ok (.iload_n 3, 1) := by decide +kernel
theorem dX1_openBlock_22 : decode cX1_openBlock 22 = .ok (.bipush 12, 2) := by decide +kernel
theorem dX1_openBlock_24 : decode cX1_openBlock 24 = .ok (.if_icmp .ge 41, 3) := by decide +kernel
theorem dX1_openBlock_27 : decode cX1_openBlock 27 = .ok (.aload_n 0, 1) := by decide +kernel
theorem dX1_openBlock_28 : decode cX1_openBlock 28 = .ok (.getfield 30, 3) := by decide +kernel
theorem dX1_openBlock_31 : decode cX1_openBlock 31 = .ok (.iload_n 3, 1) := by decide +kernel
theorem dX1_openBlock_32 : decode cX1_openBlock 32 = .ok (.iaload, 1) := by decide +kernel
theorem dX1_openBlock_33 : decode cX1_openBlock 33 = .ok (.iconst (-1), 1) := by decide +kernel
theorem dX1_openBlock_34 : decode cX1_openBlock 34 = .ok (.if_icmp .ne 25, 3) := by decide +kernel
theorem dX1_openBlock_37 : decode cX1_openBlock 37 = .ok (.iload_n 2, 1) := by decide +kernel
theorem dX1_openBlock_38 : decode cX1_openBlock 38 = .ok (.iconst (-1), 1) := by decide +kernel
theorem dX1_openBlock_39 : decode cX1_openBlock 39 = .ok (.if_icmp .eq 18, 3) := by decide +kernel
theorem dX1_openBlock_42 : decode cX1_openBlock 42 = .ok (.aload_n 0, 1) := by decide +kernel
theorem dX1_openBlock_43 : decode cX1_openBlock 43 = .ok (.getfield 39, 3) := by decide +kernel
theorem dX1_openBlock_46 : decode cX1_openBlock 46 = .ok (.iload_n 3, 1) := by decide +kernel
theorem dX1_openBlock_47 : decode cX1_openBlock 47 = .ok (.iaload, 1) := by decide +kernel
theorem dX1_openBlock_48 : decode cX1_openBlock 48 = .ok (.aload_n 0, 1) := by decide +kernel
theorem dX1_openBlock_49 : decode cX1_openBlock 49 = .ok (.getfield 39, 3) := by decide +kernel
theorem dX1_openBlock_52 : decode cX1_openBlock 52 = .ok (.iload_n 2, 1) := by decide +kernel
theorem dX1_openBlock_53 : decode cX1_openBlock 53 = .ok (.iaload, 1) := by decide +kernel
theorem dX1_openBlock_54 : decode cX1_openBlock 54 = .ok (.if_icmp .ge 5, 3) := by decide +kernel
theorem dX1_openBlock_57 : decode cX1_openBlock 57 = .ok (.iload_n 3, 1) := by decide +kernel
theorem dX1_openBlock_58 : decode cX1_openBlock 58 = .ok (.istore_n 2, 1) := by decide +kernel
theorem dX1_openBlock_59 : decode cX1_openBlock 59 = .ok (.iinc 3 1, 3) := by decide +kernel
theorem dX1_openBlock_62 : decode cX1_openBlock 62 = .ok (.goto (-41), 3) := by decide +kernel
theorem dX1_openBlock_65 : decode cX1_openBlock 65 = .ok (.iload_n 2, 1) := by decide +kernel
theorem dX1_openBlock_66 : decode cX1_openBlock 66 = .ok (.iconst (-1), 1) := by decide +kernel
theorem dX1_openBlock_67 : decode cX1_openBlock 67 = .ok (.if_icmp .eq 27, 3) := by decide +kernel
theorem dX1_openBlock_70 : decode cX1_openBlock 70 = .ok (.aload_n 0, 1) := by decide +kernel
theorem dX1_openBlock_71 : decode cX1_openBlock 71 = .ok (.getfield 30, 3) := by decide +kernel
theorem dX1_openBlock_74 : decode cX1_openBlock 74 = .ok (.iload_n 2, 1) := by decide +kernel
theorem dX1_openBlock_75 : decode cX1_openBlock 75 = .ok (.iload_n 1, 1) := by decide +kernel
theorem dX1_openBlock_76 : decode cX1_openBlock 76 = .ok (.iastore, 1) := by decide +kernel
theorem dX1_openBlock_77 : decode cX1_openBlock 77 = .ok (.aload_n 0, 1) := by decide +kernel
theorem dX1_openBlock_78 : decode cX1_openBlock 78 = .ok (.getfield 45, 3) := by decide +kernel
theorem dX1_openBlock_81 : decode cX1_openBlock 81 = .ok (.iload_n 1, 1) := by decide +kernel
theorem dX1_openBlock_82 : decode cX1_openBlock 82 = .ok (.iload_n 2, 1) := by decide +kernel
theorem dX1_openBlock_83 : decode cX1_openBlock 83 = .ok (.iastore, 1) := by decide +kernel
theorem dX1_openBlock_84 : decode cX1_openBlock 84 = .ok (.aload_n 0, 1) := by decide +kernel
theorem dX1_openBlock_85 : decode cX1_openBlock 85 = .ok (.dup, 1) := by decide +kernel
theorem dX1_openBlock_86 : decode cX1_openBlock 86 = .ok (.getfield 57, 3) := by decide +kernel
theorem dX1_openBlock_89 : decode cX1_openBlock 89 = .ok (.iconst 1, 1) := by decide +kernel
theorem dX1_openBlock_90 : decode cX1_openBlock 90 = .ok (.isub, 1) := by decide +kernel
theorem dX1_openBlock_91 : decode cX1_openBlock 91 = .ok (.putfield 57, 3) := by decide +kernel
theorem dX1_openBlock_94 : decode cX1_openBlock 94 = .ok (.iload_n 2, 1) := by decide +kernel
theorem dX1_openBlock_95 : decode cX1_openBlock 95 = .ok (.ireturn, 1) := by decide +kernel
theorem dX1_program_0 : decode cX1_program 0 = .ok (.iload_n 3, 1) := by decide +kernel
theorem dX1_program_1 : decode cX1_program 1 = .ok (.iconst (-1), 1) := by decide +kernel
theorem dX1_program_2 : decode cX1_program 2 = .ok (.if_icmp .eq 14, 3) := by decide +kernel
theorem dX1_program_5 : decode cX1_program 5 = .ok (.aload_n 0, 1) := by decide +kernel
theorem dX1_program_6 : decode cX1_program 6 = .ok (.getfield 33, 3) := by decide +kernel
theorem dX1_program_9 : decode cX1_program 9 = .ok (.iload_n 3, 1) := by decide +kernel
theorem dX1_program_10 : decode cX1_program 10 = .ok (.iaload, 1) := by decide +kernel
theorem dX1_program_11 : decode cX1_program 11 = .ok (.bipush 8, 2) := by decide +kernel
theorem dX1_program_13 : decode cX1_program 13 = .ok (.if_icmp .lt 4, 3) := by decide +kernel
theorem dX1_program_16 : decode cX1_program 16 = .ok (.return_, 1) := by decide +kernel
theorem dX1_program_17 : decode cX1_program 17 = .ok (.aload_n 0, 1) := by decide +kernel
theorem dX1_program_18 : decode cX1_program 18 = .ok (.getfield 9, 3) := by decide +kernel
theorem dX1_program_21 : decode cX1_program 21 = .ok (.iload_n 1, 1) := by decide +kernel
theorem dX1_program_22 : decode cX1_program 22 = .ok (.iaload, 1) := by decide +kernel
theorem dX1_program_23 : decode cX1_program 23 = .ok (.istore 4, 2) := by decide +kernel
theorem dX1_program_25 : decode cX1_program 25 = .ok (.iload 4, 2) := by decide +kernel
theorem dX1_program_27 : decode cX1_program 27 = .ok (.iconst (-1), 1) := by decide +kernel
theorem dX1_program_28 : decode cX1_program 28 = .ok (.if_icmp .eq 17, 3) := by decide +kernel
theorem dX1_program_31 : decode cX1_program 31 = .ok (.aload_n 0, 1) := by decide +kernel
theorem dX1_program_32 : decode cX1_program 32 = .ok (.getfield 36, 3) := by decide +kernel
theorem dX1_program_35 : decode cX1_program 35 = .ok (.iload 4, 2) := by decide +kernel
theorem dX1_program_37 : decode cX1_program 37 = .ok (.bipush 8, 2) := by decide +kernel
theorem dX1_program_39 : decode cX1_program 39 = .ok (.idiv, 1) := by decide +kernel
theorem dX1_program_40 : decode cX1_program 40 = .ok (.dup2, 1) := by decide +kernel
theorem dX1_program_41 : decode cX1_program 41 = .ok (.iaload, 1) := by decide +kernel
theorem dX1_program_42 : decode cX1_program 42 = .ok (.iconst 1, 1) := by decide +kernel
theorem dX1_program_43 : decode cX1_program 43 = .ok (.isub, 1) := by decide +kernel
theorem dX1_program_44 : decode cX1_program 44 = .ok (.iastore, 1) := by decide +kernel
theorem dX1_program_45 : decode cX1_program 45 = .ok (.iload_n 3, 1) := by decide +kernel
theorem dX1_program_46 : decode cX1_program 46 = .ok (.bipush 8, 2) := by decide +kernel
theorem dX1_program_48 : decode cX1_program 48 = .ok (.imul, 1) := by decide +kernel
theorem dX1_program_49 : decode cX1_program 49 = .ok (.aload_n 0, 1) := by decide +kernel
theorem dX1_program_50 : decode cX1_program 50 = .ok (.getfield 33, 3) := by decide +kernel
theorem dX1_program_53 : decode cX1_program 53 = .ok (.iload_n 3, 1) := by decide +kernel
theorem dX1_program_54 : decode cX1_program 54 = .ok (.iaload, 1) := by decide +kernel
theorem dX1_program_55 : decode cX1_program 55 = .ok (.iadd, 1) := by decide +kernel
theorem dX1_program_56 : decode cX1_program 56 = .ok (.istore 5, 2) := by decide +kernel
theorem dX1_program_58 : decode cX1_program 58 = .ok (.aload_n 0, 1) := by decide +kernel
theorem dX1_program_59 : decode cX1_program 59 = .ok (.getfield 9, 3) := by decide +kernel
theorem dX1_program_62 : decode cX1_program 62 = .ok (.iload_n 1, 1) := by decide +kernel
theorem dX1_program_63 : decode cX1_program 63 = .ok (.iload 5, 2) := by decide +kernel
theorem dX1_program_65 : decode cX1_program 65 = .ok (.iastore, 1) := by decide +kernel
theorem dX1_program_66 : decode cX1_program 66 = .ok (.aload_n 0, 1) := by decide +kernel
theorem dX1_program_67 : decode cX1_program 67 = .ok (.getfield 27, 3) := by decide +kernel
theorem dX1_program_70 : decode cX1_program 70 = .ok (.iload 5, 2) := by decide +kernel
theorem dX1_program_72 : decode cX1_program 72 = .ok (.iload_n 1, 1) := by decide +kernel
theorem dX1_program_73 : decode cX1_program 73 = .ok (.iastore, 1) := by decide +kernel
theorem dX1_program_74 : decode cX1_program 74 = .ok (.aload_n 0, 1) := by decide +kernel
theorem dX1_program_75 : decode cX1_program 75 = .ok (.getfield 36, 3) := by decide +kernel
theorem dX1_program_78 : decode cX1_program 78 = .ok (.iload_n 3, 1) := by decide +kernel
theorem dX1_program_79 : decode cX1_program 79 = .ok (.dup2, 1) := by decide +kernel
theorem dX1_program_80 : decode cX1_program 80 = .ok (.iaload, 1) := by decide +kernel
theorem dX1_program_81 : decode cX1_program 81 = .ok (.iconst 1, 1) := by decide +kernel
theorem dX1_program_82 : decode cX1_program 82 = .ok (.iadd, 1) := by decide +kernel
theorem dX1_program_83 : decode cX1_program 83 = .ok (.iastore, 1) := by decide +kernel
theorem dX1_program_84 : decode cX1_program 84 = .ok (.aload_n 0, 1) := by decide +kernel
theorem dX1_program_85 : decode cX1_program 85 = .ok (.getfield 33, 3) := by decide +kernel
theorem dX1_program_88 : decode cX1_program 88 = .ok (.iload_n 3, 1) := by decide +kernel
theorem dX1_program_89 : decode cX1_program 89 = .ok (.dup2, 1) := by decide +kernel
theorem dX1_program_90 : decode cX1_program 90 = .ok (.iaload, 1) := by decide +kernel
theorem dX1_program_91 : decode cX1_program 91 = .ok (.iconst 1, 1) := by decide +kernel
theorem dX1_program_92 : decode cX1_program 92 = .ok (.iadd, 1) := by decide +kernel
theorem dX1_program_93 : decode cX1_program 93 = .ok (.iastore, 1) := by decide +kernel
theorem dX1_program_94 : decode cX1_program 94 = .ok (.aload_n 0, 1) := by decide +kernel
theorem dX1_program_95 : decode cX1_program 95 = .ok (.getfield 48, 3) := by decide +kernel
theorem dX1_program_98 : decode cX1_program 98 = .ok (.iload_n 2, 1) := by decide +kernel
theorem dX1_program_99 : decode cX1_program 99 = .ok (.dup2, 1) := by decide +kernel
theorem dX1_program_100 : decode cX1_program 100 = .ok (.iaload, 1) := by decide +kernel
theorem dX1_program_101 : decode cX1_program 101 = .ok (.iconst 1, 1) := by decide +kernel
theorem dX1_program_102 : decode cX1_program 102 = .ok (.iadd, 1) := by decide +kernel
theorem dX1_program_103 : decode cX1_program 103 = .ok (.iastore, 1) := by decide +kernel
theorem dX1_program_104 : decode cX1_program 104 = .ok (.aload_n 0, 1) := by decide +kernel
theorem dX1_program_105 : decode cX1_program 105 = .ok (.getfield 33, 3) := by decide +kernel
theorem dX1_program_108 : decode cX1_program 108 = .ok (.iload_n 3, 1) := by decide +kernel
theorem dX1_program_109 : decode cX1_program 109 = .ok (.iaload, 1) := by decide +kernel
theorem dX1_program_110 : decode cX1_program 110 = .ok (.bipush 8, 2) := by decide +kernel
theorem dX1_program_112 : decode cX1_program 112 = .ok (.if_icmp .ne 30, 3) := by decide +kernel
theorem dX1_program_115 : decode cX1_program 115 = .ok (.aload_n 0, 1) := by decide +kernel
theorem dX1_program_116 : decode cX1_program 116 = .ok (.getfield 45, 3) := by decide +kernel
theorem dX1_program_119 : decode cX1_program 119 = .ok (.iload_n 2, 1) := by decide +kernel
theorem dX1_program_120 : decode cX1_program 120 = .ok (.iconst (-1), 1) := by decide +kernel
theorem dX1_program_121 : decode cX1_program 121 = .ok (.iastore, 1) := by decide +kernel
theorem dX1_program_122 : decode cX1_program 122 = .ok (.aload_n 0, 1) := by decide +kernel
theorem dX1_program_123 : decode cX1_program 123 = .ok (.getfield 42, 3) := by decide +kernel
theorem dX1_program_126 : decode cX1_program 126 = .ok (.iload_n 3, 1) := by decide +kernel
theorem dX1_program_127 : decode cX1_program 127 = .ok (.aload_n 0, 1) := by decide +kernel
theorem dX1_program_128 : decode cX1_program 128 = .ok (.getfield 61, 3) := by decide +kernel
theorem dX1_program_131 : decode cX1_program 131 = .ok (.iastore, 1) := by decide +kernel
theorem dX1_program_132 : decode cX1_program 132 = .ok (.aload_n 0, 1) := by decide +kernel
theorem dX1_program_133 : decode cX1_program 133 = .ok (.dup, 1) := by decide +kernel
theorem dX1_program_134 : decode cX1_program 134 = .ok (.getfield 61, 3) := by decide +kernel
theorem dX1_program_137 : decode cX1_program 137 = .ok (.iconst 1, 1) := by decide +kernel
theorem dX1_program_138 : decode cX1_program 138 = .ok (.iadd, 1) := by decide +kernel
theorem dX1_program_139 : decode cX1_program 139 = .ok (.putfield 61, 3) := by decide +kernel
theorem dX1_program_142 : decode cX1_program 142 = .ok (.return_, 1) := by decide +kernel
set_option maxRecDepth 20000 in
theorem ggX1_collectVictims_X1_victim : GoodIn wsX1_collectVictims wsX1_victim := goodIn_r _ [7, 8, 9, 10, 11, 12, 6, 13, 14, 15, 16, 47, 48, 49, 50, 51, 52, 53, 54, 55, 56, 57, 58, 59, 60, 61, 62, 63] (by decide +kernel) (by decide +kernel)
set_option maxRecDepth 20000 in
theorem gX1_collectVictims_X1_victim : GoodIn wsX1_collectVictims (wsV RX1 106 RX1 yX1_victim wsX1_victim) := goodIn_app (goodIn_of _ (by decide +kernel)) ggX1_collectVictims_X1_victim
set_option maxRecDepth 20000 in
theorem ggX1_collectVictims_X1_collectBlock : GoodIn wsX1_collectVictims wsX1_collectBlock := goodIn_r _ [20, 21, 22, 23, 24, 25, 26, 27, 6, 28, 29, 30, 31, 32, 33, 34, 35, 36, 16, 1, 37, 38, 39, 40, 8, 9, 41, 15, 42, 43, 44, 45, 46, 47, 48, 49, 50, 51, 52, 53, 54, 55, 56, 57, 58, 59, 60, 61, 62, 63] (by decide +kernel) (by decide +kernel)
set_option maxRecDepth 20000 in
theorem gX1_collectVictims_X1_collectBlock : GoodIn wsX1_collectVictims (wsV RX1 109 RX1 yX1_collectBlock wsX1_collectBlock) := goodIn_app (goodIn_of _ (by decide +kernel)) ggX1_collectVictims_X1_collectBlock
theorem dX1_collectVictims_0 : decode cX1_collectVictims 0 = .ok (.iconst 0, 1) := by decide +kernel
theorem dX1_collectVictims_1 : decode cX1_collectVictims 1 = .ok (.istore_n 2, 1) := by decide +kernel
theorem dX1_collectVictims_2 : decode cX1_collectVictims 2 = .ok (.aload_n 0, 1) := by decide +kernel
theorem dX1_collectVictims_3 : decode cX1_collectVictims 3 = .ok (.getfield 57, 3) := by decide +kernel
theorem dX1_collectVictims_6 : decode cX1_collectVictims 6 = .ok (.iload_n 1, 1) := by decide +kernel
theorem dX1_collectVictims_7 : decode cX1_collectVictims 7 = .ok (.if_icmp .ge 33, 3) := by decide +kernel
theorem dX1_collectVictims_10 : decode cX1_collectVictims 10 = .ok (.iload_n 2, 1) := by decide +kernel
theorem dX1_collectVictims_11 : decode cX1_collectVictims 11 = .ok (.ldc 105, 2) := by decide +kernel
theorem dX1_collectVictims_13 : decode cX1_collectVictims 13 = .ok (.if_icmp .ge 27, 3) := by decide +kernel
theorem dX1_collectVictims_16 : decode cX1_collectVictims 16 = .ok (.aload_n 0, 1) := by decide +kernel
theorem dX1_collectVictims_17 : decode cX1_collectVictims 17 = .ok (.invokevirtual 106, 3) := by decide +kernel
theorem dX1_collectVictims_20 : decode cX1_collectVictims 20 = .ok (.istore_n 3, 1) := by decide +kernel
theorem dX1_collectVictims_21 : decode cX1_collectVictims 21 = .ok (.iload_n 3, 1) := by decide +kernel
theorem dX1_collectVictims_22 : decode cX1_collectVictims 22 = .ok (.iconst (-1), 1) := by decide +kernel
theorem dX1_collectVictims_23 : decode cX1_collectVictims 23 = .ok (.if_icmp .ne 6, 3) := by decide +kernel
theorem dX1_collectVictims_26 : decode cX1_collectVictims 26 = .ok (.goto 14, 3) := by decide +kernel
theorem dX1_collectVictims_29 : decode cX1_collectVictims 29 = .ok (.aload_n 0, 1) := by decide +kernel
theorem dX1_collectVictims_30 : decode cX1_collectVictims 30 = .ok (.iload_n 3, 1) := by decide +kernel
theorem dX1_collectVictims_31 : decode cX1_collectVictims 31 = .ok (.invokevirtual 109, 3) := by decide +kernel
theorem dX1_collectVictims_34 : decode cX1_collectVictims 34 = .ok (.iinc 2 1, 3) := by decide +kernel
theorem dX1_collectVictims_37 : decode cX1_collectVictims 37 = .ok (.goto (-35), 3) := by decide +kernel
theorem dX1_collectVictims_40 : decode cX1_collectVictims 40 = .ok (.iload_n 2, 1) := by decide +kernel
theorem dX1_collectVictims_41 : decode cX1_collectVictims 41 = .ok (.ireturn, 1) := by decide +kernel
set_option maxRecDepth 20000 in
theorem ggX1_victim_X1_rankOf : GoodIn wsX1_victim wsX1_rankOf := goodIn_r _ [7, 8, 9, 10, 2, 11, 12, 13, 14, 15, 16, 17, 18, 19, 20, 21, 22, 23, 24, 25, 26, 27] (by decide +kernel) (by decide +kernel)
set_option maxRecDepth 20000 in
theorem gX1_victim_X1_rankOf : GoodIn wsX1_victim (wsV RX1 113 RX1 yX1_rankOf wsX1_rankOf) := goodIn_app (goodIn_of _ (by decide +kernel)) ggX1_victim_X1_rankOf
theorem dX1_victim_0 : decode cX1_victim 0 = .ok (.iconst (-1), 1) := by decide +kernel
theorem dX1_victim_1 : decode cX1_victim 1 = .ok (.istore_n 1, 1) := by decide +kernel
theorem dX1_victim_2 : decode cX1_victim 2 = .ok (.iconst 0, 1) := by decide +kernel
theorem dX1_victim_3 : decode cX1_victim 3 = .ok (.istore_n 2, 1) := by decide +kernel
theorem dX1_victim_4 : decode cX1_victim 4 = .ok (.iconst 0, 1) := by decide +kernel
theorem dX1_victim_5 : decode cX1_victim 5 = .ok (.istore_n 3, 1) := by decide +kernel
theorem dX1_victim_6 : decode cX1_victim 6 = .ok (.iload_n 3, 1) := by decide +kernel
theorem dX1_victim_7 : decode cX1_victim 7 = .ok (.bipush 12, 2) := by decide +kernel
theorem dX1_victim_9 : decode cX1_victim 9 = .ok (.if_icmp .ge 54, 3) := by decide +kernel
theorem dX1_victim_12 : decode cX1_victim 12 = .ok (.aload_n 0, 1) := by decide +kernel
theorem dX1_victim_13 : decode cX1_victim 13 = .ok (.getfield 33, 3) := by decide +kernel
theorem dX1_victim_16 : decode cX1_victim 16 = .ok (.iload_n 3, 1) := by decide +kernel
theorem dX1_victim_17 : decode cX1_victim 17 = .ok (.iaload, 1) := by decide +kernel
theorem dX1_victim_18 : decode cX1_victim 18 = .ok (.bipush 8, 2) := by decide +kernel
theorem dX1_victim_20 : decode cX1_victim 20 = .ok (.if_icmp .ne 37, 3) := by decide +kernel
theorem dX1_victim_23 : decode cX1_victim 23 = .ok (.aload_n 0, 1) := by decide +kernel
theorem dX1_victim_24 : decode cX1_victim 24 = .ok (.getfield 36, 3) := by decide +kernel
theorem dX1_victim_27 : decode cX1_victim 27 = .ok (.iload_n 3, 1) := by decide +kernel
theorem dX1_victim_28 : decode cX1_victim 28 = .ok (.iaload, 1) := by decide +kernel
theorem dX1_victim_29 : decode cX1_victim 29 = .ok (.bipush 8, 2) := by decide +kernel
theorem dX1_victim_31 : decode cX1_victim 31 = .ok (.if_icmp .ge 26, 3) := by decide +kernel
theorem dX1_victim_34 : decode cX1_victim 34 = .ok (.aload_n 0, 1) := by decide +kernel
theorem dX1_victim_35 : decode cX1_victim 35 = .ok (.iload_n 3, 1) := by decide +kernel
theorem dX1_victim_36 : decode cX1_victim 36 = .ok (.invokevirtual 113, 3) := by decide +kernel
theorem dX1_victim_39 : decode cX1_victim 39 = .ok (.istore 4, 2) := by decide +kernel
theorem dX1_victim_41 : decode cX1_victim 41 = .ok (.iload_n 1, 1) := by decide +kernel
theorem dX1_victim_42 : decode cX1_victim 42 = .ok (.iconst (-1), 1) := by decide +kernel
theorem dX1_victim_43 : decode cX1_victim 43 = .ok (.if_icmp .eq 9, 3) := by decide +kernel
theorem dX1_victim_46 : decode cX1_victim 46 = .ok (.iload 4, 2) := by decide +kernel
theorem dX1_victim_48 : decode cX1_victim 48 = .ok (.iload_n 2, 1) := by decide +kernel
theorem dX1_victim_49 : decode cX1_victim 49 = .ok (.if_icmp .ge 8, 3) := by decide +kernel
theorem dX1_victim_52 : decode cX1_victim 52 = .ok (.iload_n 3, 1) := by decide +kernel
theorem dX1_victim_53 : decode cX1_victim 53 = .ok (.istore_n 1, 1) := by decide +kernel
theorem dX1_victim_54 : decode cX1_victim 54 = .ok (.iload 4, 2) := by decide +kernel
theorem dX1_victim_56 : decode cX1_victim 56 = .ok (.istore_n 2, 1) := by decide +kernel
theorem dX1_victim_57 : decode cX1_victim 57 = .ok (.iinc 3 1, 3) := by decide +kernel
theorem dX1_victim_60 : decode cX1_victim 60 = .ok (.goto (-54), 3) := by decide +kernel
theorem dX1_victim_63 : decode cX1_victim 63 = .ok (.iload_n 1, 1) := by decide +kernel
theorem dX1_victim_64 : decode cX1_victim 64 = .ok (.ireturn, 1) := by decide +kernel
theorem dX1_rankOf_0 : decode cX1_rankOf 0 = .ok (.aload_n 0, 1) := by decide +kernel
theorem dX1_rankOf_1 : decode cX1_rankOf 1 = .ok (.getfield 54, 3) := by decide +kernel
theorem dX1_rankOf_4 : decode cX1_rankOf 4 = .ok (.iconst 0, 1) := by decide +kernel
theorem dX1_rankOf_5 : decode cX1_rankOf 5 = .ok (.iaload, 1) := by decide +kernel
theorem dX1_rankOf_6 : decode cX1_rankOf 6 = .ok (.lookupswitch 50 #[(1, 26), (2, 33)], 26) := by decide +kernel
theorem dX1_rankOf_32 : decode cX1_rankOf 32 = .ok (.aload_n 0, 1) := by decide +kernel
theorem dX1_rankOf_33 : decode cX1_rankOf 33 = .ok (.getfield 42, 3) := by decide +kernel
theorem dX1_rankOf_36 : decode cX1_rankOf 36 = .ok (.iload_n 1, 1) := by decide +kernel
theorem dX1_rankOf_37 : decode cX1_rankOf 37 = .ok (.iaload, 1) := by decide +kernel
theorem dX1_rankOf_38 : decode cX1_rankOf 38 = .ok (.ireturn, 1) := by decide +kernel
theorem dX1_rankOf_39 : decode cX1_rankOf 39 = .ok (.aload_n 0, 1) := by decide +kernel
theorem dX1_rankOf_40 : decode cX1_rankOf 40 = .ok (.getfield 39, 3) := by decide +kernel
theorem dX1_rankOf_43 : decode cX1_rankOf 43 = .ok (.iload_n 1, 1) := by decide +kernel
theorem dX1_rankOf_44 : decode cX1_rankOf 44 = .ok (.iaload, 1) := by decide +kernel
theorem dX1_rankOf_45 : decode cX1_rankOf 45 = .ok (.bipush 9, 2) := by decide +kernel
theorem dX1_rankOf_47 : decode cX1_rankOf 47 = .ok (.imul, 1) := by decide +kernel
theorem dX1_rankOf_48 : decode cX1_rankOf 48 = .ok (.aload_n 0, 1) := by decide +kernel
theorem dX1_rankOf_49 : decode cX1_rankOf 49 = .ok (.getfield 36, 3) := by decide +kernel
theorem dX1_rankOf_52 : decode cX1_rankOf 52 = .ok (.iload_n 1, 1) := by decide +kernel
theorem dX1_rankOf_53 : decode cX1_rankOf 53 = .ok (.iaload, 1) := by decide +kernel
theorem dX1_rankOf_54 : decode cX1_rankOf 54 = .ok (.iadd, 1) := by decide +kernel
theorem dX1_rankOf_55 : decode cX1_rankOf 55 = .ok (.ireturn, 1) := by decide +kernel
theorem dX1_rankOf_56 : decode cX1_rankOf 56 = .ok (.aload_n 0, 1) := by decide +kernel
theorem dX1_rankOf_57 : decode cX1_rankOf 57 = .ok (.getfield 36, 3) := by decide +kernel
theorem dX1_rankOf_60 : decode cX1_rankOf 60 = .ok (.iload_n 1, 1) := by decide +kernel
theorem dX1_rankOf_61 : decode cX1_rankOf 61 = .ok (.iaload, 1) := by decide +kernel
theorem dX1_rankOf_62 : decode cX1_rankOf 62 = .ok (.ireturn, 1) := by decide +kernel
set_option maxRecDepth 20000 in
theorem ggX1_collectBlock_X1_validPageAt : GoodIn wsX1_collectBlock wsX1_validPageAt := goodIn_r _ [9, 10, 11, 33, 34, 35, 36, 37, 38, 39, 40, 41, 42, 43, 44, 45, 46, 47, 48, 49] (by decide +kernel) (by decide +kernel)
set_option maxRecDepth 20000 in
theorem gX1_collectBlock_X1_validPageAt : GoodIn wsX1_collectBlock (wsV RX1 116 RX1 yX1_validPageAt wsX1_validPageAt) := goodIn_app (goodIn_of _ (by decide +kernel)) ggX1_collectBlock_X1_validPageAt
set_option maxRecDepth 20000 in
theorem ggX1_collectBlock_X1_openBlock : GoodIn wsX1_collectBlock wsX1_openBlock := goodIn_r _ [15, 16, 17, 18, 19, 33, 34, 35, 36, 37, 38, 39, 40, 41, 42, 43, 44, 45, 46, 47, 48, 49] (by decide +kernel) (by decide +kernel)
set_option maxRecDepth 20000 in
theorem gX1_collectBlock_X1_openBlock : GoodIn wsX1_collectBlock (wsV RX1 98 RX1 yX1_openBlock wsX1_openBlock) := goodIn_app (goodIn_of _ (by decide +kernel)) ggX1_collectBlock_X1_openBlock
set_option maxRecDepth 20000 in
theorem ggX1_collectBlock_X1_program : GoodIn wsX1_collectBlock wsX1_program := goodIn_r _ [23, 24, 11, 25, 10, 26, 16, 27, 28, 33, 34, 35, 36, 37, 38, 39, 40, 41, 42, 43, 44, 45, 46, 47, 48, 49] (by decide +kernel) (by decide +kernel)
set_option maxRecDepth 20000 in
theorem gX1_collectBlock_X1_program : GoodIn wsX1_collectBlock (wsV RX1 101 RX1 yX1_program wsX1_program) := goodIn_app (goodIn_of _ (by decide +kernel)) ggX1_collectBlock_X1_program
set_option maxRecDepth 20000 in
theorem ggX1_collectBlock_X1_erase : GoodIn wsX1_collectBlock wsX1_erase := goodIn_r _ [32, 10, 24, 25, 17, 18, 19, 33, 34, 35, 36, 37, 38, 39, 40, 41, 42, 43, 44, 45, 46, 47, 48, 49] (by decide +kernel) (by decide +kernel)
set_option maxRecDepth 20000 in
theorem gX1_collectBlock_X1_erase : GoodIn wsX1_collectBlock (wsV RX1 119 RX1 yX1_erase wsX1_erase) := goodIn_app (goodIn_of _ (by decide +kernel)) ggX1_collectBlock_X1_erase
theorem dX1_collectBlock_0 : decode cX1_collectBlock 0 = .ok (.iconst 0, 1) := by decide +kernel
theorem dX1_collectBlock_1 : decode cX1_collectBlock 1 = .ok (.istore_n 2, 1) := by decide +kernel
theorem dX1_collectBlock_2 : decode cX1_collectBlock 2 = .ok (.iload_n 2, 1) := by decide +kernel
theorem dX1_collectBlock_3 : decode cX1_collectBlock 3 = .ok (.bipush 8, 2) := by decide +kernel
theorem dX1_collectBlock_5 : decode cX1_collectBlock 5 = .ok (.if_icmp .ge 71, 3) := by decide +kernel
theorem dX1_collectBlock_8 : decode cX1_collectBlock 8 = .ok (.aload_n 0, 1) := by decide +kernel
theorem dX1_collectBlock_9 : decode cX1_collectBlock 9 = .ok (.iload_n 1, 1) := by decide +kernel
theorem dX1_collectBlock_10 : decode cX1_collectBlock 10 = .ok (.bipush 8, 2) := by decide +kernel
theorem dX1_collectBlock_12 : decode cX1_collectBlock 12 = .ok (.imul, 1) := by decide +kernel
theorem dX1_collectBlock_13 : decode cX1_collectBlock 13 = .ok (.iload_n 2, 1) := by decide +kernel
theorem dX1_collectBlock_14 : decode cX1_collectBlock 14 = .ok (.iadd, 1) := by decide +kernel
theorem dX1_collectBlock_15 : decode cX1_collectBlock 15 = .ok (.invokevirtual 116, 3) := by decide +kernel
theorem dX1_collectBlock_18 : decode cX1_collectBlock 18 = .ok (.istore_n 3, 1) := by decide +kernel
theorem dX1_collectBlock_19 : decode cX1_collectBlock 19 = .ok (.iload_n 3, 1) := by decide +kernel
theorem dX1_collectBlock_20 : decode cX1_collectBlock 20 = .ok (.iconst (-1), 1) := by decide +kernel
theorem dX1_collectBlock_21 : decode cX1_collectBlock 21 = .ok (.if_icmp .eq 49, 3) := by decide +kernel
theorem dX1_collectBlock_24 : decode cX1_collectBlock 24 = .ok (.aload_n 0, 1) := by decide +kernel
theorem dX1_collectBlock_25 : decode cX1_collectBlock 25 = .ok (.getfield 21, 3) := by decide +kernel
theorem dX1_collectBlock_28 : decode cX1_collectBlock 28 = .ok (.iload_n 3, 1) := by decide +kernel
theorem dX1_collectBlock_29 : decode cX1_collectBlock 29 = .ok (.dup2, 1) := by decide +kernel
theorem dX1_collectBlock_30 : decode cX1_collectBlock 30 = .ok (.iaload, 1) := by decide +kernel
theorem dX1_collectBlock_31 : decode cX1_collectBlock 31 = .ok (.iconst 1, 1) := by decide +kernel
theorem dX1_collectBlock_32 : decode cX1_collectBlock 32 = .ok (.iadd, 1) := by decide +kernel
theorem dX1_collectBlock_33 : decode cX1_collectBlock 33 = .ok (.iastore, 1) := by decide +kernel
theorem dX1_collectBlock_34 : decode cX1_collectBlock 34 = .ok (.aload_n 0, 1) := by decide +kernel
theorem dX1_collectBlock_35 : decode cX1_collectBlock 35 = .ok (.getfield 24, 3) := by decide +kernel
theorem dX1_collectBlock_38 : decode cX1_collectBlock 38 = .ok (.iload_n 3, 1) := by decide +kernel
theorem dX1_collectBlock_39 : decode cX1_collectBlock 39 = .ok (.dup2, 1) := by decide +kernel
theorem dX1_collectBlock_40 : decode cX1_collectBlock 40 = .ok (.iaload, 1) := by decide +kernel
theorem dX1_collectBlock_41 : decode cX1_collectBlock 41 = .ok (.iconst 1, 1) := by decide +kernel
theorem dX1_collectBlock_42 : decode cX1_collectBlock 42 = .ok (.iadd, 1) := by decide +kernel
theorem dX1_collectBlock_43 : decode cX1_collectBlock 43 = .ok (.iastore, 1) := by decide +kernel
theorem dX1_collectBlock_44 : decode cX1_collectBlock 44 = .ok (.aload_n 0, 1) := by decide +kernel
theorem dX1_collectBlock_45 : decode cX1_collectBlock 45 = .ok (.getfield 51, 3) := by decide +kernel
theorem dX1_collectBlock_48 : decode cX1_collectBlock 48 = .ok (.aload_n 0, 1) := by decide +kernel
theorem dX1_collectBlock_49 : decode cX1_collectBlock 49 = .ok (.getfield 15, 3) := by decide +kernel
theorem dX1_collectBlock_52 : decode cX1_collectBlock 52 = .ok (.iload_n 3, 1) := by decide +kernel
theorem dX1_collectBlock_53 : decode cX1_collectBlock 53 = .ok (.iaload, 1) := by decide +kernel
theorem dX1_collectBlock_54 : decode cX1_collectBlock 54 = .ok (.dup2, 1) := by decide +kernel
theorem dX1_collectBlock_55 : decode cX1_collectBlock 55 = .ok (.iaload, 1) := by decide +kernel
theorem dX1_collectBlock_56 : decode cX1_collectBlock 56 = .ok (.iconst 1, 1) := by decide +kernel
theorem dX1_collectBlock_57 : decode cX1_collectBlock 57 = .ok (.iadd, 1) := by decide +kernel
theorem dX1_collectBlock_58 : decode cX1_collectBlock 58 = .ok (.iastore, 1) := by decide +kernel
theorem dX1_collectBlock_59 : decode cX1_collectBlock 59 = .ok (.aload_n 0, 1) := by decide +kernel
theorem dX1_collectBlock_60 : decode cX1_collectBlock 60 = .ok (.iload_n 3, 1) := by decide +kernel
theorem dX1_collectBlock_61 : decode cX1_collectBlock 61 = .ok (.iconst 4, 1) := by decide +kernel
theorem dX1_collectBlock_62 : decode cX1_collectBlock 62 = .ok (.aload_n 0, 1) := by decide +kernel
theorem dX1_collectBlock_63 : decode cX1_collectBlock 63 = .ok (.iconst 4, 1) := by decide +kernel
theorem dX1_collectBlock_64 : decode cX1_collectBlock 64 = .ok (.invokevirtual 98, 3) := by decide +kernel
theorem dX1_collectBlock_67 : decode cX1_collectBlock 67 = .ok (.invokevirtual 101, 3) := by decide +kernel
theorem dX1_collectBlock_70 : decode cX1_collectBlock 70 = .ok (.iinc 2 1, 3) := by decide +kernel
theorem dX1_collectBlock_73 : decode cX1_collectBlock 73 = .ok (.goto (-71), 3) := by decide +kernel
theorem dX1_collectBlock_76 : decode cX1_collectBlock 76 = .ok (.aload_n 0, 1) := by decide +kernel
theorem dX1_collectBlock_77 : decode cX1_collectBlock 77 = .ok (.iload_n 1, 1) := by decide +kernel
theorem dX1_collectBlock_78 : decode cX1_collectBlock 78 = .ok (.invokevirtual 119, 3) := by decide +kernel
theorem dX1_collectBlock_81 : decode cX1_collectBlock 81 = .ok (.return_, 1) := by decide +kernel
theorem dX1_erase_0 : decode cX1_erase 0 = .ok (.iconst 0, 1) := by decide +kernel
theorem dX1_erase_1 : decode cX1_erase 1 = .ok (.istore_n 2, 1) := by decide +kernel
theorem dX1_erase_2 : decode cX1_erase 2 = .ok (.iload_n 2, 1) := by decide +kernel
theorem dX1_erase_3 : decode cX1_erase 3 = .ok (.bipush 8, 2) := by decide +kernel
theorem dX1_erase_5 : decode cX1_erase 5 = .ok (.if_icmp .ge 21, 3) := by decide +kernel
theorem dX1_erase_8 : decode cX1_erase 8 = .ok (.aload_n 0, 1) := by decide +kernel
theorem dX1_erase_9 : decode cX1_erase 9 = .ok (.getfield 27, 3) := by decide +kernel
theorem dX1_erase_12 : decode cX1_erase 12 = .ok (.iload_n 1, 1) := by decide +kernel
theorem dX1_erase_13 : decode cX1_erase 13 = .ok (.bipush 8, 2) := by decide +kernel
theorem dX1_erase_15 : decode cX1_erase 15 = .ok (.imul, 1) := by decide +kernel
theorem dX1_erase_16 : decode cX1_erase 16 = .ok (.iload_n 2, 1) := by decide +kernel
theorem dX1_erase_17 : decode cX1_erase 17 = .ok (.iadd, 1) := by decide +kernel
theorem dX1_erase_18 : decode cX1_erase 18 = .ok (.iconst (-1), 1) := by decide +kernel
theorem dX1_erase_19 : decode cX1_erase 19 = .ok (.iastore, 1) := by decide +kernel
theorem dX1_erase_20 : decode cX1_erase 20 = .ok (.iinc 2 1, 3) := by decide +kernel
theorem dX1_erase_23 : decode cX1_erase 23 = .ok (.goto (-21), 3) := by decide +kernel
theorem dX1_erase_26 : decode cX1_erase 26 = .ok (.aload_n 0, 1) := by decide +kernel
theorem dX1_erase_27 : decode cX1_erase 27 = .ok (.getfield 33, 3) := by decide +kernel
theorem dX1_erase_30 : decode cX1_erase 30 = .ok (.iload_n 1, 1) := by decide +kernel
theorem dX1_erase_31 : decode cX1_erase 31 = .ok (.iconst 0, 1) := by decide +kernel
theorem dX1_erase_32 : decode cX1_erase 32 = .ok (.iastore, 1) := by decide +kernel
theorem dX1_erase_33 : decode cX1_erase 33 = .ok (.aload_n 0, 1) := by decide +kernel
theorem dX1_erase_34 : decode cX1_erase 34 = .ok (.getfield 36, 3) := by decide +kernel
theorem dX1_erase_37 : decode cX1_erase 37 = .ok (.iload_n 1, 1) := by decide +kernel
theorem dX1_erase_38 : decode cX1_erase 38 = .ok (.iconst 0, 1) := by decide +kernel
theorem dX1_erase_39 : decode cX1_erase 39 = .ok (.iastore, 1) := by decide +kernel
theorem dX1_erase_40 : decode cX1_erase 40 = .ok (.aload_n 0, 1) := by decide +kernel
theorem dX1_erase_41 : decode cX1_erase 41 = .ok (.getfield 30, 3) := by decide +kernel
theorem dX1_erase_44 : decode cX1_erase 44 = .ok (.iload_n 1, 1) := by decide +kernel
theorem dX1_erase_45 : decode cX1_erase 45 = .ok (.iconst (-1), 1) := by decide +kernel
theorem dX1_erase_46 : decode cX1_erase 46 = .ok (.iastore, 1) := by decide +kernel
theorem dX1_erase_47 : decode cX1_erase 47 = .ok (.aload_n 0, 1) := by decide +kernel
theorem dX1_erase_48 : decode cX1_erase 48 = .ok (.getfield 39, 3) := by decide +kernel
theorem dX1_erase_51 : decode cX1_erase 51 = .ok (.iload_n 1, 1) := by decide +kernel
theorem dX1_erase_52 : decode cX1_erase 52 = .ok (.dup2, 1) := by decide +kernel
theorem dX1_erase_53 : decode cX1_erase 53 = .ok (.iaload, 1) := by decide +kernel
theorem dX1_erase_54 : decode cX1_erase 54 = .ok (.iconst 1, 1) := by decide +kernel
theorem dX1_erase_55 : decode cX1_erase 55 = .ok (.iadd, 1) := by decide +kernel
theorem dX1_erase_56 : decode cX1_erase 56 = .ok (.iastore, 1) := by decide +kernel
theorem dX1_erase_57 : decode cX1_erase 57 = .ok (.aload_n 0, 1) := by decide +kernel
theorem dX1_erase_58 : decode cX1_erase 58 = .ok (.dup, 1) := by decide +kernel
theorem dX1_erase_59 : decode cX1_erase 59 = .ok (.getfield 57, 3) := by decide +kernel
theorem dX1_erase_62 : decode cX1_erase 62 = .ok (.iconst 1, 1) := by decide +kernel
theorem dX1_erase_63 : decode cX1_erase 63 = .ok (.iadd, 1) := by decide +kernel
theorem dX1_erase_64 : decode cX1_erase 64 = .ok (.putfield 57, 3) := by decide +kernel
theorem dX1_erase_67 : decode cX1_erase 67 = .ok (.return_, 1) := by decide +kernel
theorem dX1_isWritten_0 : decode cX1_isWritten 0 = .ok (.aload_n 0, 1) := by decide +kernel
theorem dX1_isWritten_1 : decode cX1_isWritten 1 = .ok (.getfield 9, 3) := by decide +kernel
theorem dX1_isWritten_4 : decode cX1_isWritten 4 = .ok (.iload_n 1, 1) := by decide +kernel
theorem dX1_isWritten_5 : decode cX1_isWritten 5 = .ok (.iaload, 1) := by decide +kernel
theorem dX1_isWritten_6 : decode cX1_isWritten 6 = .ok (.iconst (-1), 1) := by decide +kernel
theorem dX1_isWritten_7 : decode cX1_isWritten 7 = .ok (.if_icmp .eq 7, 3) := by decide +kernel
theorem dX1_isWritten_10 : decode cX1_isWritten 10 = .ok (.iconst 1, 1) := by decide +kernel
theorem dX1_isWritten_11 : decode cX1_isWritten 11 = .ok (.goto 4, 3) := by decide +kernel
theorem dX1_isWritten_14 : decode cX1_isWritten 14 = .ok (.iconst 0, 1) := by decide +kernel
theorem dX1_isWritten_15 : decode cX1_isWritten 15 = .ok (.ireturn, 1) := by decide +kernel
set_option maxRecDepth 20000 in
theorem ggX1_blockOf_X1_isWritten : GoodIn wsX1_blockOf wsX1_isWritten := goodIn_r _ [6, 1, 7, 8, 9, 10, 11, 12, 13, 14, 15, 16, 17, 18, 19, 20, 21, 22, 23] (by decide +kernel) (by decide +kernel)
set_option maxRecDepth 20000 in
theorem gX1_blockOf_X1_isWritten : GoodIn wsX1_blockOf (wsV RX1 122 RX1 yX1_isWritten wsX1_isWritten) := goodIn_app (goodIn_of _ (by decide +kernel)) ggX1_blockOf_X1_isWritten
theorem dX1_blockOf_0 : decode cX1_blockOf 0 = .ok (.aload_n 0, 1) := by decide +kernel
theorem dX1_blockOf_1 : decode cX1_blockOf 1 = .ok (.iload_n 1, 1) := by decide +kernel
theorem dX1_blockOf_2 : decode cX1_blockOf 2 = .ok (.invokevirtual 122, 3) := by decide +kernel
theorem dX1_blockOf_5 : decode cX1_blockOf 5 = .ok (.ifCond .eq 15, 3) := by decide +kernel
theorem dX1_blockOf_8 : decode cX1_blockOf 8 = .ok (.aload_n 0, 1) := by decide +kernel
theorem dX1_blockOf_9 : decode cX1_blockOf 9 = .ok (.getfield 9, 3) := by decide +kernel
theorem dX1_blockOf_12 : decode cX1_blockOf 12 = .ok (.iload_n 1, 1) := by decide +kernel
theorem dX1_blockOf_13 : decode cX1_blockOf 13 = .ok (.iaload, 1) := by decide +kernel
theorem dX1_blockOf_14 : decode cX1_blockOf 14 = .ok (.bipush 8, 2) := by decide +kernel
theorem dX1_blockOf_16 : decode cX1_blockOf 16 = .ok (.idiv, 1) := by decide +kernel
theorem dX1_blockOf_17 : decode cX1_blockOf 17 = .ok (.goto 4, 3) := by decide +kernel
theorem dX1_blockOf_20 : decode cX1_blockOf 20 = .ok (.iconst (-1), 1) := by decide +kernel
theorem dX1_blockOf_21 : decode cX1_blockOf 21 = .ok (.ireturn, 1) := by decide +kernel
theorem dX1_validPageAt_0 : decode cX1_validPageAt 0 = .ok (.aload_n 0, 1) := by decide +kernel
theorem dX1_validPageAt_1 : decode cX1_validPageAt 1 = .ok (.getfield 27, 3) := by decide +kernel
theorem dX1_validPageAt_4 : decode cX1_validPageAt 4 = .ok (.iload_n 1, 1) := by decide +kernel
theorem dX1_validPageAt_5 : decode cX1_validPageAt 5 = .ok (.iaload, 1) := by decide +kernel
theorem dX1_validPageAt_6 : decode cX1_validPageAt 6 = .ok (.istore_n 2, 1) := by decide +kernel
theorem dX1_validPageAt_7 : decode cX1_validPageAt 7 = .ok (.iload_n 2, 1) := by decide +kernel
theorem dX1_validPageAt_8 : decode cX1_validPageAt 8 = .ok (.iconst (-1), 1) := by decide +kernel
theorem dX1_validPageAt_9 : decode cX1_validPageAt 9 = .ok (.if_icmp .eq 17, 3) := by decide +kernel
theorem dX1_validPageAt_12 : decode cX1_validPageAt 12 = .ok (.aload_n 0, 1) := by decide +kernel
theorem dX1_validPageAt_13 : decode cX1_validPageAt 13 = .ok (.getfield 9, 3) := by decide +kernel
theorem dX1_validPageAt_16 : decode cX1_validPageAt 16 = .ok (.iload_n 2, 1) := by decide +kernel
theorem dX1_validPageAt_17 : decode cX1_validPageAt 17 = .ok (.iaload, 1) := by decide +kernel
theorem dX1_validPageAt_18 : decode cX1_validPageAt 18 = .ok (.iload_n 1, 1) := by decide +kernel
theorem dX1_validPageAt_19 : decode cX1_validPageAt 19 = .ok (.if_icmp .ne 7, 3) := by decide +kernel
theorem dX1_validPageAt_22 : decode cX1_validPageAt 22 = .ok (.iload_n 2, 1) := by decide +kernel
theorem dX1_validPageAt_23 : decode cX1_validPageAt 23 = .ok (.goto 4, 3) := by decide +kernel
theorem dX1_validPageAt_26 : decode cX1_validPageAt 26 = .ok (.iconst (-1), 1) := by decide +kernel
theorem dX1_validPageAt_27 : decode cX1_validPageAt 27 = .ok (.ireturn, 1) := by decide +kernel
theorem dX1_stateOf_0 : decode cX1_stateOf 0 = .ok (.aload_n 0, 1) := by decide +kernel
theorem dX1_stateOf_1 : decode cX1_stateOf 1 = .ok (.getfield 30, 3) := by decide +kernel
theorem dX1_stateOf_4 : decode cX1_stateOf 4 = .ok (.iload_n 1, 1) := by decide +kernel
theorem dX1_stateOf_5 : decode cX1_stateOf 5 = .ok (.iaload, 1) := by decide +kernel
theorem dX1_stateOf_6 : decode cX1_stateOf 6 = .ok (.iconst (-1), 1) := by decide +kernel
theorem dX1_stateOf_7 : decode cX1_stateOf 7 = .ok (.if_icmp .ne 5, 3) := by decide +kernel
theorem dX1_stateOf_10 : decode cX1_stateOf 10 = .ok (.iconst 0, 1) := by decide +kernel
theorem dX1_stateOf_11 : decode cX1_stateOf 11 = .ok (.ireturn, 1) := by decide +kernel
theorem dX1_stateOf_12 : decode cX1_stateOf 12 = .ok (.aload_n 0, 1) := by decide +kernel
theorem dX1_stateOf_13 : decode cX1_stateOf 13 = .ok (.getfield 33, 3) := by decide +kernel
theorem dX1_stateOf_16 : decode cX1_stateOf 16 = .ok (.iload_n 1, 1) := by decide +kernel
theorem dX1_stateOf_17 : decode cX1_stateOf 17 = .ok (.iaload, 1) := by decide +kernel
theorem dX1_stateOf_18 : decode cX1_stateOf 18 = .ok (.bipush 8, 2) := by decide +kernel
theorem dX1_stateOf_20 : decode cX1_stateOf 20 = .ok (.if_icmp .ge 7, 3) := by decide +kernel
theorem dX1_stateOf_23 : decode cX1_stateOf 23 = .ok (.iconst 1, 1) := by decide +kernel
theorem dX1_stateOf_24 : decode cX1_stateOf 24 = .ok (.goto 4, 3) := by decide +kernel
theorem dX1_stateOf_27 : decode cX1_stateOf 27 = .ok (.iconst 2, 1) := by decide +kernel
theorem dX1_stateOf_28 : decode cX1_stateOf 28 = .ok (.ireturn, 1) := by decide +kernel
set_option maxRecDepth 20000 in
theorem ggX1_pageProperty_X1_blockOf : GoodIn wsX1_pageProperty wsX1_blockOf := goodIn_r _ [10, 1, 11, 12, 13, 9, 14, 15, 16, 17, 18, 19, 20, 21, 22, 23, 24, 25, 26, 27, 28, 29, 30, 31] (by decide +kernel) (by decide +kernel)
set_option maxRecDepth 20000 in
theorem gX1_pageProperty_X1_blockOf : GoodIn wsX1_pageProperty (wsV RX1 126 RX1 yX1_blockOf wsX1_blockOf) := goodIn_app (goodIn_of _ (by decide +kernel)) ggX1_pageProperty_X1_blockOf
set_option maxRecDepth 20000 in
theorem ggX1_pageProperty_X1_isWritten : GoodIn wsX1_pageProperty wsX1_isWritten := goodIn_r _ [14, 1, 15, 16, 17, 18, 19, 20, 21, 22, 23, 24, 25, 26, 27, 28, 29, 30, 31] (by decide +kernel) (by decide +kernel)
set_option maxRecDepth 20000 in
theorem gX1_pageProperty_X1_isWritten : GoodIn wsX1_pageProperty (wsV RX1 122 RX1 yX1_isWritten wsX1_isWritten) := goodIn_app (goodIn_of _ (by decide +kernel)) ggX1_pageProperty_X1_isWritten
theorem dX1_pageProperty_0 : decode cX1_pageProperty 0 = .ok (.iload_n 2, 1) := by decide +kernel
theorem dX1_pageProperty_1 : decode cX1_pageProperty 1 = .ok (.tableswitch 96 0 4 #[35, 41, 63, 82, 89], 35) := by decide +kernel
theorem dX1_pageProperty_36 : decode cX1_pageProperty 36 = .ok (.aload_n 0, 1) := by decide +kernel
theorem dX1_pageProperty_37 : decode cX1_pageProperty 37 = .ok (.iload_n 1, 1) := by decide +kernel
theorem dX1_pageProperty_38 : decode cX1_pageProperty 38 = .ok (.invokevirtual 126, 3) := by decide +kernel
theorem dX1_pageProperty_41 : decode cX1_pageProperty 41 = .ok (.ireturn, 1) := by decide +kernel
theorem dX1_pageProperty_42 : decode cX1_pageProperty 42 = .ok (.aload_n 0, 1) := by decide +kernel
theorem dX1_pageProperty_43 : decode cX1_pageProperty 43 = .ok (.iload_n 1, 1) := by decide +kernel
theorem dX1_pageProperty_44 : decode cX1_pageProperty 44 = .ok (.invokevirtual 122, 3) := by decide +kernel
theorem dX1_pageProperty_47 : decode cX1_pageProperty 47 = .ok (.ifCond .eq 15, 3) := by decide +kernel
theorem dX1_pageProperty_50 : decode cX1_pageProperty 50 = .ok (.aload_n 0, 1) := by decide +kernel
theorem dX1_pageProperty_51 : decode cX1_pageProperty 51 = .ok (.getfield 9, 3) := by decide +kernel
theorem dX1_pageProperty_54 : decode cX1_pageProperty 54 = .ok (.iload_n 1, 1) := by decide +kernel
theorem dX1_pageProperty_55 : decode cX1_pageProperty 55 = .ok (.iaload, 1) := by decide +kernel
theorem dX1_pageProperty_56 : decode cX1_pageProperty 56 = .ok (.bipush 8, 2) := by decide +kernel
theorem dX1_pageProperty_58 : decode cX1_pageProperty 58 = .ok (.irem, 1) := by decide +kernel
theorem dX1_pageProperty_59 : decode cX1_pageProperty 59 = .ok (.goto 4, 3) := by decide +kernel
theorem dX1_pageProperty_62 : decode cX1_pageProperty 62 = .ok (.iconst (-1), 1) := by decide +kernel
theorem dX1_pageProperty_63 : decode cX1_pageProperty 63 = .ok (.ireturn, 1) := by decide +kernel
theorem dX1_pageProperty_64 : decode cX1_pageProperty 64 = .ok (.aload_n 0, 1) := by decide +kernel
theorem dX1_pageProperty_65 : decode cX1_pageProperty 65 = .ok (.iload_n 1, 1) := by decide +kernel
theorem dX1_pageProperty_66 : decode cX1_pageProperty 66 = .ok (.invokevirtual 122, 3) := by decide +kernel
theorem dX1_pageProperty_69 : decode cX1_pageProperty 69 = .ok (.ifCond .eq 12, 3) := by decide +kernel
theorem dX1_pageProperty_72 : decode cX1_pageProperty 72 = .ok (.aload_n 0, 1) := by decide +kernel
theorem dX1_pageProperty_73 : decode cX1_pageProperty 73 = .ok (.getfield 15, 3) := by decide +kernel
theorem dX1_pageProperty_76 : decode cX1_pageProperty 76 = .ok (.iload_n 1, 1) := by decide +kernel
theorem dX1_pageProperty_77 : decode cX1_pageProperty 77 = .ok (.iaload, 1) := by decide +kernel
theorem dX1_pageProperty_78 : decode cX1_pageProperty 78 = .ok (.goto 4, 3) := by decide +kernel
theorem dX1_pageProperty_81 : decode cX1_pageProperty 81 = .ok (.iconst (-1), 1) := by decide +kernel
theorem dX1_pageProperty_82 : decode cX1_pageProperty 82 = .ok (.ireturn, 1) := by decide +kernel
theorem dX1_pageProperty_83 : decode cX1_pageProperty 83 = .ok (.aload_n 0, 1) := by decide +kernel
theorem dX1_pageProperty_84 : decode cX1_pageProperty 84 = .ok (.getfield 18, 3) := by decide +kernel
theorem dX1_pageProperty_87 : decode cX1_pageProperty 87 = .ok (.iload_n 1, 1) := by decide +kernel
theorem dX1_pageProperty_88 : decode cX1_pageProperty 88 = .ok (.iaload, 1) := by decide +kernel
theorem dX1_pageProperty_89 : decode cX1_pageProperty 89 = .ok (.ireturn, 1) := by decide +kernel
theorem dX1_pageProperty_90 : decode cX1_pageProperty 90 = .ok (.aload_n 0, 1) := by decide +kernel
theorem dX1_pageProperty_91 : decode cX1_pageProperty 91 = .ok (.getfield 21, 3) := by decide +kernel
theorem dX1_pageProperty_94 : decode cX1_pageProperty 94 = .ok (.iload_n 1, 1) := by decide +kernel
theorem dX1_pageProperty_95 : decode cX1_pageProperty 95 = .ok (.iaload, 1) := by decide +kernel
theorem dX1_pageProperty_96 : decode cX1_pageProperty 96 = .ok (.ireturn, 1) := by decide +kernel
theorem dX1_pageProperty_97 : decode cX1_pageProperty 97 = .ok (.aload_n 0, 1) := by decide +kernel
theorem dX1_pageProperty_98 : decode cX1_pageProperty 98 = .ok (.getfield 24, 3) := by decide +kernel
theorem dX1_pageProperty_101 : decode cX1_pageProperty 101 = .ok (.iload_n 1, 1) := by decide +kernel
theorem dX1_pageProperty_102 : decode cX1_pageProperty 102 = .ok (.iaload, 1) := by decide +kernel
theorem dX1_pageProperty_103 : decode cX1_pageProperty 103 = .ok (.ireturn, 1) := by decide +kernel
set_option maxRecDepth 20000 in
theorem ggX1_blockProperty_X1_stateOf : GoodIn wsX1_blockProperty wsX1_stateOf := goodIn_r _ [9, 1, 3, 33, 34, 35, 36, 37, 38, 39, 40, 41, 42, 43, 44, 45, 46, 47, 48, 49] (by decide +kernel) (by decide +kernel)
set_option maxRecDepth 20000 in
theorem gX1_blockProperty_X1_stateOf : GoodIn wsX1_blockProperty (wsV RX1 129 RX1 yX1_stateOf wsX1_stateOf) := goodIn_app (goodIn_of _ (by decide +kernel)) ggX1_blockProperty_X1_stateOf
set_option maxRecDepth 20000 in
theorem ggX1_blockProperty_X1_closedAheadOf : GoodIn wsX1_blockProperty wsX1_closedAheadOf := goodIn_r _ [13, 14, 5, 6, 7, 8, 9, 1, 3, 33, 34, 35, 36, 37, 38, 39, 40, 41, 42, 43, 44, 45, 46, 47, 48, 49] (by decide +kernel) (by decide +kernel)
set_option maxRecDepth 20000 in
theorem gX1_blockProperty_X1_closedAheadOf : GoodIn wsX1_blockProperty (wsV RX1 132 RX1 yX1_closedAheadOf wsX1_closedAheadOf) := goodIn_app (goodIn_of _ (by decide +kernel)) ggX1_blockProperty_X1_closedAheadOf
set_option maxRecDepth 20000 in
theorem ggX1_blockProperty_X1_unlikeHintsOf : GoodIn wsX1_blockProperty wsX1_unlikeHintsOf := goodIn_r _ [18, 19, 20, 21, 22, 8, 23, 24, 25, 26, 27, 28, 29, 30, 31, 32, 33, 34, 35, 36, 37, 38, 39, 40, 41, 42, 43, 44, 45, 46, 47, 48, 49] (by decide +kernel) (by decide +kernel)
set_option maxRecDepth 20000 in
theorem gX1_blockProperty_X1_unlikeHintsOf : GoodIn wsX1_blockProperty (wsV RX1 135 RX1 yX1_unlikeHintsOf wsX1_unlikeHintsOf) := goodIn_app (goodIn_of _ (by decide +kernel)) ggX1_blockProperty_X1_unlikeHintsOf
theorem dX1_blockProperty_0 : decode cX1_blockProperty 0 = .ok (.iload_n 2, 1) := by decide +kernel
theorem dX1_blockProperty_1 : decode cX1_blockProperty 1 = .ok (.tableswitch 100 0 6 #[43, 49, 56, 63, 77, 87, 94], 43) := by decide +kernel
theorem dX1_blockProperty_44 : decode cX1_blockProperty 44 = .ok (.aload_n 0, 1) := by decide +kernel
theorem dX1_blockProperty_45 : decode cX1_blockProperty 45 = .ok (.iload_n 1, 1) := by decide +kernel
theorem dX1_blockProperty_46 : decode cX1_blockProperty 46 = .ok (.invokevirtual 129, 3) := by decide +kernel
theorem dX1_blockProperty_49 : decode cX1_blockProperty 49 = .ok (.ireturn, 1) := by decide +kernel
theorem dX1_blockProperty_50 : decode cX1_blockProperty 50 = .ok (.aload_n 0, 1) := by decide +kernel
theorem dX1_blockProperty_51 : decode cX1_blockProperty 51 = .ok (.getfield 30, 3) := by decide +kernel
theorem dX1_blockProperty_54 : decode cX1_blockProperty 54 = .ok (.iload_n 1, 1) := by decide +kernel
theorem dX1_blockProperty_55 : decode cX1_blockProperty 55 = .ok (.iaload, 1) := by decide +kernel
theorem dX1_blockProperty_56 : decode cX1_blockProperty 56 = .ok (.ireturn, 1) := by decide +kernel
theorem dX1_blockProperty_57 : decode cX1_blockProperty 57 = .ok (.aload_n 0, 1) := by decide +kernel
theorem dX1_blockProperty_58 : decode cX1_blockProperty 58 = .ok (.getfield 36, 3) := by decide +kernel
theorem dX1_blockProperty_61 : decode cX1_blockProperty 61 = .ok (.iload_n 1, 1) := by decide +kernel
theorem dX1_blockProperty_62 : decode cX1_blockProperty 62 = .ok (.iaload, 1) := by decide +kernel
theorem dX1_blockProperty_63 : decode cX1_blockProperty 63 = .ok (.ireturn, 1) := by decide +kernel
theorem dX1_blockProperty_64 : decode cX1_blockProperty 64 = .ok (.aload_n 0, 1) := by decide +kernel
theorem dX1_blockProperty_65 : decode cX1_blockProperty 65 = .ok (.getfield 33, 3) := by decide +kernel
theorem dX1_blockProperty_68 : decode cX1_blockProperty 68 = .ok (.iload_n 1, 1) := by decide +kernel
theorem dX1_blockProperty_69 : decode cX1_blockProperty 69 = .ok (.iaload, 1) := by decide +kernel
theorem dX1_blockProperty_70 : decode cX1_blockProperty 70 = .ok (.aload_n 0, 1) := by decide +kernel
theorem dX1_blockProperty_71 : decode cX1_blockProperty 71 = .ok (.getfield 36, 3) := by decide +kernel
theorem dX1_blockProperty_74 : decode cX1_blockProperty 74 = .ok (.iload_n 1, 1) := by decide +kernel
theorem dX1_blockProperty_75 : decode cX1_blockProperty 75 = .ok (.iaload, 1) := by decide +kernel
theorem dX1_blockProperty_76 : decode cX1_blockProperty 76 = .ok (.isub, 1) := by decide +kernel
theorem dX1_blockProperty_77 : decode cX1_blockProperty 77 = .ok (.ireturn, 1) := by decide +kernel
theorem dX1_blockProperty_78 : decode cX1_blockProperty 78 = .ok (.bipush 8, 2) := by decide +kernel
theorem dX1_blockProperty_80 : decode cX1_blockProperty 80 = .ok (.aload_n 0, 1) := by decide +kernel
theorem dX1_blockProperty_81 : decode cX1_blockProperty 81 = .ok (.getfield 33, 3) := by decide +kernel
theorem dX1_blockProperty_84 : decode cX1_blockProperty 84 = .ok (.iload_n 1, 1) := by decide +kernel
theorem dX1_blockProperty_85 : decode cX1_blockProperty 85 = .ok (.iaload, 1) := by decide +kernel
theorem dX1_blockProperty_86 : decode cX1_blockProperty 86 = .ok (.isub, 1) := by decide +kernel
theorem dX1_blockProperty_87 : decode cX1_blockProperty 87 = .ok (.ireturn, 1) := by decide +kernel
theorem dX1_blockProperty_88 : decode cX1_blockProperty 88 = .ok (.aload_n 0, 1) := by decide +kernel
theorem dX1_blockProperty_89 : decode cX1_blockProperty 89 = .ok (.getfield 39, 3) := by decide +kernel
theorem dX1_blockProperty_92 : decode cX1_blockProperty 92 = .ok (.iload_n 1, 1) := by decide +kernel
theorem dX1_blockProperty_93 : decode cX1_blockProperty 93 = .ok (.iaload, 1) := by decide +kernel
theorem dX1_blockProperty_94 : decode cX1_blockProperty 94 = .ok (.ireturn, 1) := by decide +kernel
theorem dX1_blockProperty_95 : decode cX1_blockProperty 95 = .ok (.aload_n 0, 1) := by decide +kernel
theorem dX1_blockProperty_96 : decode cX1_blockProperty 96 = .ok (.iload_n 1, 1) := by decide +kernel
theorem dX1_blockProperty_97 : decode cX1_blockProperty 97 = .ok (.invokevirtual 132, 3) := by decide +kernel
theorem dX1_blockProperty_100 : decode cX1_blockProperty 100 = .ok (.ireturn, 1) := by decide +kernel
theorem dX1_blockProperty_101 : decode cX1_blockProperty 101 = .ok (.aload_n 0, 1) := by decide +kernel
theorem dX1_blockProperty_102 : decode cX1_blockProperty 102 = .ok (.iload_n 1, 1) := by decide +kernel
theorem dX1_blockProperty_103 : decode cX1_blockProperty 103 = .ok (.invokevirtual 135, 3) := by decide +kernel
theorem dX1_blockProperty_106 : decode cX1_blockProperty 106 = .ok (.ireturn, 1) := by decide +kernel
set_option maxRecDepth 20000 in
theorem ggX1_closedAheadOf_X1_stateOf : GoodIn wsX1_closedAheadOf wsX1_stateOf := goodIn_r _ [6, 7, 8, 9, 10, 11, 12, 13, 14, 15, 16, 17, 18, 19, 20, 21, 22, 23, 24, 25] (by decide +kernel) (by decide +kernel)
set_option maxRecDepth 20000 in
theorem gX1_closedAheadOf_X1_stateOf : GoodIn wsX1_closedAheadOf (wsV RX1 129 RX1 yX1_stateOf wsX1_stateOf) := goodIn_app (goodIn_of _ (by decide +kernel)) ggX1_closedAheadOf_X1_stateOf
theorem dX1_closedAheadOf_0 : decode cX1_closedAheadOf 0 = .ok (.aload_n 0, 1) := by decide +kernel
theorem dX1_closedAheadOf_1 : decode cX1_closedAheadOf 1 = .ok (.iload_n 1, 1) := by decide +kernel
theorem dX1_closedAheadOf_2 : decode cX1_closedAheadOf 2 = .ok (.invokevirtual 129, 3) := by decide +kernel
theorem dX1_closedAheadOf_5 : decode cX1_closedAheadOf 5 = .ok (.iconst 2, 1) := by decide +kernel
theorem dX1_closedAheadOf_6 : decode cX1_closedAheadOf 6 = .ok (.if_icmp .eq 5, 3) := by decide +kernel
theorem dX1_closedAheadOf_9 : decode cX1_closedAheadOf 9 = .ok (.iconst (-1), 1) := by decide +kernel
theorem dX1_closedAheadOf_10 : decode cX1_closedAheadOf 10 = .ok (.ireturn, 1) := by decide +kernel
theorem dX1_closedAheadOf_11 : decode cX1_closedAheadOf 11 = .ok (.iconst 0, 1) := by decide +kernel
theorem dX1_closedAheadOf_12 : decode cX1_closedAheadOf 12 = .ok (.istore_n 2, 1) := by decide +kernel
theorem dX1_closedAheadOf_13 : decode cX1_closedAheadOf 13 = .ok (.iconst 0, 1) := by decide +kernel
theorem dX1_closedAheadOf_14 : decode cX1_closedAheadOf 14 = .ok (.istore_n 3, 1) := by decide +kernel
theorem dX1_closedAheadOf_15 : decode cX1_closedAheadOf 15 = .ok (.iload_n 3, 1) := by decide +kernel
theorem dX1_closedAheadOf_16 : decode cX1_closedAheadOf 16 = .ok (.bipush 12, 2) := by decide +kernel
theorem dX1_closedAheadOf_18 : decode cX1_closedAheadOf 18 = .ok (.if_icmp .ge 36, 3) := by decide +kernel
theorem dX1_closedAheadOf_21 : decode cX1_closedAheadOf 21 = .ok (.aload_n 0, 1) := by decide +kernel
theorem dX1_closedAheadOf_22 : decode cX1_closedAheadOf 22 = .ok (.iload_n 3, 1) := by decide +kernel
theorem dX1_closedAheadOf_23 : decode cX1_closedAheadOf 23 = .ok (.invokevirtual 129, 3) := by decide +kernel
theorem dX1_closedAheadOf_26 : decode cX1_closedAheadOf 26 = .ok (.iconst 2, 1) := by decide +kernel
theorem dX1_closedAheadOf_27 : decode cX1_closedAheadOf 27 = .ok (.if_icmp .ne 21, 3) := by decide +kernel
theorem dX1_closedAheadOf_30 : decode cX1_closedAheadOf 30 = .ok (.aload_n 0, 1) := by decide +kernel
theorem dX1_closedAheadOf_31 : decode cX1_closedAheadOf 31 = .ok (.getfield 42, 3) := by decide +kernel
theorem dX1_closedAheadOf_34 : decode cX1_closedAheadOf 34 = .ok (.iload_n 3, 1) := by decide +kernel
theorem dX1_closedAheadOf_35 : decode cX1_closedAheadOf 35 = .ok (.iaload, 1) := by decide +kernel
theorem dX1_closedAheadOf_36 : decode cX1_closedAheadOf 36 = .ok (.aload_n 0, 1) := by decide +kernel
theorem dX1_closedAheadOf_37 : decode cX1_closedAheadOf 37 = .ok (.getfield 42, 3) := by decide +kernel
theorem dX1_closedAheadOf_40 : decode cX1_closedAheadOf 40 = .ok (.iload_n 1, 1) := by decide +kernel
theorem dX1_closedAheadOf_41 : decode cX1_closedAheadOf 41 = .ok (.iaload, 1) := by decide +kernel
theorem dX1_closedAheadOf_42 : decode cX1_closedAheadOf 42 = .ok (.if_icmp .ge 6, 3) := by decide +kernel
theorem dX1_closedAheadOf_45 : decode cX1_closedAheadOf 45 = .ok (.iinc 2 1, 3) := by decide +kernel
theorem dX1_closedAheadOf_48 : decode cX1_closedAheadOf 48 = .ok (.iinc 3 1, 3) := by decide +kernel
theorem dX1_closedAheadOf_51 : decode cX1_closedAheadOf 51 = .ok (.goto (-36), 3) := by decide +kernel
theorem dX1_closedAheadOf_54 : decode cX1_closedAheadOf 54 = .ok (.iload_n 2, 1) := by decide +kernel
theorem dX1_closedAheadOf_55 : decode cX1_closedAheadOf 55 = .ok (.ireturn, 1) := by decide +kernel
set_option maxRecDepth 20000 in
theorem ggX1_unlikeHintsOf_X1_validPageAt : GoodIn wsX1_unlikeHintsOf wsX1_validPageAt := goodIn_r _ [6, 7, 8, 16, 17, 18, 19, 20, 21, 22, 23, 24, 25, 26, 27, 28, 29, 30, 31, 32] (by decide +kernel) (by decide +kernel)
set_option maxRecDepth 20000 in
theorem gX1_unlikeHintsOf_X1_validPageAt : GoodIn wsX1_unlikeHintsOf (wsV RX1 116 RX1 yX1_validPageAt wsX1_validPageAt) := goodIn_app (goodIn_of _ (by decide +kernel)) ggX1_unlikeHintsOf_X1_validPageAt
set_option maxRecDepth 20000 in
theorem ggX1_unlikeHintsOf_J6_bitCount_0f7a4 : GoodIn wsX1_unlikeHintsOf wsJ6_bitCount_0f7a4 := goodIn_r _ [12, 13, 14, 15] (by decide +kernel) (by decide +kernel)
set_option maxRecDepth 20000 in
theorem gX1_unlikeHintsOf_J6_bitCount_0f7a4 : GoodIn wsX1_unlikeHintsOf (va_wsS RX1 138 yJ6_bitCount_0f7a4 wsJ6_bitCount_0f7a4) := goodIn_app (goodIn_of _ (by decide +kernel)) ggX1_unlikeHintsOf_J6_bitCount_0f7a4
theorem dX1_unlikeHintsOf_0 : decode cX1_unlikeHintsOf 0 = .ok (.iconst 0, 1) := by decide +kernel
theorem dX1_unlikeHintsOf_1 : decode cX1_unlikeHintsOf 1 = .ok (.istore_n 2, 1) := by decide +kernel
theorem dX1_unlikeHintsOf_2 : decode cX1_unlikeHintsOf 2 = .ok (.iconst 0, 1) := by decide +kernel
theorem dX1_unlikeHintsOf_3 : decode cX1_unlikeHintsOf 3 = .ok (.istore_n 3, 1) := by decide +kernel
theorem dX1_unlikeHintsOf_4 : decode cX1_unlikeHintsOf 4 = .ok (.iload_n 3, 1) := by decide +kernel
theorem dX1_unlikeHintsOf_5 : decode cX1_unlikeHintsOf 5 = .ok (.bipush 8, 2) := by decide +kernel
theorem dX1_unlikeHintsOf_7 : decode cX1_unlikeHintsOf 7 = .ok (.if_icmp .ge 39, 3) := by decide +kernel
theorem dX1_unlikeHintsOf_10 : decode cX1_unlikeHintsOf 10 = .ok (.aload_n 0, 1) := by decide +kernel
theorem dX1_unlikeHintsOf_11 : decode cX1_unlikeHintsOf 11 = .ok (.iload_n 1, 1) := by decide +kernel
theorem dX1_unlikeHintsOf_12 : decode cX1_unlikeHintsOf 12 = .ok (.bipush 8, 2) := by decide +kernel
theorem dX1_unlikeHintsOf_14 : decode cX1_unlikeHintsOf 14 = .ok (.imul, 1) := by decide +kernel
theorem dX1_unlikeHintsOf_15 : decode cX1_unlikeHintsOf 15 = .ok (.iload_n 3, 1) := by decide +kernel
theorem dX1_unlikeHintsOf_16 : decode cX1_unlikeHintsOf 16 = .ok (.iadd, 1) := by decide +kernel
theorem dX1_unlikeHintsOf_17 : decode cX1_unlikeHintsOf 17 = .ok (.invokevirtual 116, 3) := by decide +kernel
theorem dX1_unlikeHintsOf_20 : decode cX1_unlikeHintsOf 20 = .ok (.istore 4, 2) := by decide +kernel
theorem dX1_unlikeHintsOf_22 : decode cX1_unlikeHintsOf 22 = .ok (.iload 4, 2) := by decide +kernel
theorem dX1_unlikeHintsOf_24 : decode cX1_unlikeHintsOf 24 = .ok (.iconst (-1), 1) := by decide +kernel
theorem dX1_unlikeHintsOf_25 : decode cX1_unlikeHintsOf 25 = .ok (.if_icmp .eq 15, 3) := by decide +kernel
theorem dX1_unlikeHintsOf_28 : decode cX1_unlikeHintsOf 28 = .ok (.iload_n 2, 1) := by decide +kernel
theorem dX1_unlikeHintsOf_29 : decode cX1_unlikeHintsOf 29 = .ok (.iconst 1, 1) := by decide +kernel
theorem dX1_unlikeHintsOf_30 : decode cX1_unlikeHintsOf 30 = .ok (.aload_n 0, 1) := by decide +kernel
theorem dX1_unlikeHintsOf_31 : decode cX1_unlikeHintsOf 31 = .ok (.getfield 15, 3) := by decide +kernel
theorem dX1_unlikeHintsOf_34 : decode cX1_unlikeHintsOf 34 = .ok (.iload 4, 2) := by decide +kernel
theorem dX1_unlikeHintsOf_36 : decode cX1_unlikeHintsOf 36 = .ok (.iaload, 1) := by decide +kernel
theorem dX1_unlikeHintsOf_37 : decode cX1_unlikeHintsOf 37 = .ok (.ishl, 1) := by decide +kernel
theorem dX1_unlikeHintsOf_38 : decode cX1_unlikeHintsOf 38 = .ok (.ior, 1) := by decide +kernel
theorem dX1_unlikeHintsOf_39 : decode cX1_unlikeHintsOf 39 = .ok (.istore_n 2, 1) := by decide +kernel
theorem dX1_unlikeHintsOf_40 : decode cX1_unlikeHintsOf 40 = .ok (.iinc 3 1, 3) := by decide +kernel
theorem dX1_unlikeHintsOf_43 : decode cX1_unlikeHintsOf 43 = .ok (.goto (-39), 3) := by decide +kernel
theorem dX1_unlikeHintsOf_46 : decode cX1_unlikeHintsOf 46 = .ok (.iload_n 2, 1) := by decide +kernel
theorem dX1_unlikeHintsOf_47 : decode cX1_unlikeHintsOf 47 = .ok (.invokestatic 138, 3) := by decide +kernel
theorem dX1_unlikeHintsOf_50 : decode cX1_unlikeHintsOf 50 = .ok (.ireturn, 1) := by decide +kernel
set_option maxRecDepth 20000 in
theorem ggX1_streamProperty_X1_pagesWithHint : GoodIn wsX1_streamProperty wsX1_pagesWithHint := goodIn_r _ [8, 9, 10, 11, 12, 7, 13, 14, 19, 20, 21, 22, 23, 24, 25, 26, 27, 28, 29, 30, 31, 32, 33, 34, 35] (by decide +kernel) (by decide +kernel)
set_option maxRecDepth 20000 in
theorem gX1_streamProperty_X1_pagesWithHint : GoodIn wsX1_streamProperty (wsV RX1 143 RX1 yX1_pagesWithHint wsX1_pagesWithHint) := goodIn_app (goodIn_of _ (by decide +kernel)) ggX1_streamProperty_X1_pagesWithHint
set_option maxRecDepth 20000 in
theorem ggX1_streamProperty_X1_percentOf : GoodIn wsX1_streamProperty wsX1_percentOf := goodIn_r _ [18, 2, 3, 19, 20, 21, 22, 23, 24, 25, 26, 27, 28, 29, 30, 31, 32, 33, 34, 35] (by decide +kernel) (by decide +kernel)
set_option maxRecDepth 20000 in
theorem gX1_streamProperty_X1_percentOf : GoodIn wsX1_streamProperty (wsV RX1 146 RX1 yX1_percentOf wsX1_percentOf) := goodIn_app (goodIn_of _ (by decide +kernel)) ggX1_streamProperty_X1_percentOf
theorem dX1_streamProperty_0 : decode cX1_streamProperty 0 = .ok (.iload_n 2, 1) := by decide +kernel
theorem dX1_streamProperty_1 : decode cX1_streamProperty 1 = .ok (.tableswitch 58 0 3 #[31, 38, 45, 51], 31) := by decide +kernel
theorem dX1_streamProperty_32 : decode cX1_streamProperty 32 = .ok (.aload_n 0, 1) := by decide +kernel
theorem dX1_streamProperty_33 : decode cX1_streamProperty 33 = .ok (.getfield 45, 3) := by decide +kernel
theorem dX1_streamProperty_36 : decode cX1_streamProperty 36 = .ok (.iload_n 1, 1) := by decide +kernel
theorem dX1_streamProperty_37 : decode cX1_streamProperty 37 = .ok (.iaload, 1) := by decide +kernel
theorem dX1_streamProperty_38 : decode cX1_streamProperty 38 = .ok (.ireturn, 1) := by decide +kernel
theorem dX1_streamProperty_39 : decode cX1_streamProperty 39 = .ok (.aload_n 0, 1) := by decide +kernel
theorem dX1_streamProperty_40 : decode cX1_streamProperty 40 = .ok (.getfield 48, 3) := by decide +kernel
theorem dX1_streamProperty_43 : decode cX1_streamProperty 43 = .ok (.iload_n 1, 1) := by decide +kernel
theorem dX1_streamProperty_44 : decode cX1_streamProperty 44 = .ok (.iaload, 1) := by decide +kernel
theorem dX1_streamProperty_45 : decode cX1_streamProperty 45 = .ok (.ireturn, 1) := by decide +kernel
theorem dX1_streamProperty_46 : decode cX1_streamProperty 46 = .ok (.aload_n 0, 1) := by decide +kernel
theorem dX1_streamProperty_47 : decode cX1_streamProperty 47 = .ok (.iload_n 1, 1) := by decide +kernel
theorem dX1_streamProperty_48 : decode cX1_streamProperty 48 = .ok (.invokevirtual 143, 3) := by decide +kernel
theorem dX1_streamProperty_51 : decode cX1_streamProperty 51 = .ok (.ireturn, 1) := by decide +kernel
theorem dX1_streamProperty_52 : decode cX1_streamProperty 52 = .ok (.aload_n 0, 1) := by decide +kernel
theorem dX1_streamProperty_53 : decode cX1_streamProperty 53 = .ok (.getfield 51, 3) := by decide +kernel
theorem dX1_streamProperty_56 : decode cX1_streamProperty 56 = .ok (.iload_n 1, 1) := by decide +kernel
theorem dX1_streamProperty_57 : decode cX1_streamProperty 57 = .ok (.iaload, 1) := by decide +kernel
theorem dX1_streamProperty_58 : decode cX1_streamProperty 58 = .ok (.ireturn, 1) := by decide +kernel
theorem dX1_streamProperty_59 : decode cX1_streamProperty 59 = .ok (.aload_n 0, 1) := by decide +kernel
theorem dX1_streamProperty_60 : decode cX1_streamProperty 60 = .ok (.iload_n 1, 1) := by decide +kernel
theorem dX1_streamProperty_61 : decode cX1_streamProperty 61 = .ok (.invokevirtual 146, 3) := by decide +kernel
theorem dX1_streamProperty_64 : decode cX1_streamProperty 64 = .ok (.ireturn, 1) := by decide +kernel
set_option maxRecDepth 20000 in
theorem ggX1_pagesWithHint_X1_isWritten : GoodIn wsX1_pagesWithHint wsX1_isWritten := goodIn_r _ [6, 7, 8, 9, 10, 11, 12, 13, 14, 15, 16, 17, 18, 19, 20, 21, 22, 23, 24] (by decide +kernel) (by decide +kernel)
set_option maxRecDepth 20000 in
theorem gX1_pagesWithHint_X1_isWritten : GoodIn wsX1_pagesWithHint (wsV RX1 122 RX1 yX1_isWritten wsX1_isWritten) := goodIn_app (goodIn_of _ (by decide +kernel)) ggX1_pagesWithHint_X1_isWritten
theorem dX1_pagesWithHint_0 : decode cX1_pagesWithHint 0 = .ok (.iconst 0, 1) := by decide +kernel
theorem dX1_pagesWithHint_1 : decode cX1_pagesWithHint 1 = .ok (.istore_n 2, 1) := by decide +kernel
theorem dX1_pagesWithHint_2 : decode cX1_pagesWithHint 2 = .ok (.iconst 0, 1) := by decide +kernel
theorem dX1_pagesWithHint_3 : decode cX1_pagesWithHint 3 = .ok (.istore_n 3, 1) := by decide +kernel
theorem dX1_pagesWithHint_4 : decode cX1_pagesWithHint 4 = .ok (.iload_n 3, 1) := by decide +kernel
theorem dX1_pagesWithHint_5 : decode cX1_pagesWithHint 5 = .ok (.bipush 40, 2) := by decide +kernel
theorem dX1_pagesWithHint_7 : decode cX1_pagesWithHint 7 = .ok (.if_icmp .ge 30, 3) := by decide +kernel
theorem dX1_pagesWithHint_10 : decode cX1_pagesWithHint 10 = .ok (.aload_n 0, 1) := by decide +kernel
theorem dX1_pagesWithHint_11 : decode cX1_pagesWithHint 11 = .ok (.iload_n 3, 1) := by decide +kernel
theorem dX1_pagesWithHint_12 : decode cX1_pagesWithHint 12 = .ok (.invokevirtual 122, 3) := by decide +kernel
theorem dX1_pagesWithHint_15 : decode cX1_pagesWithHint 15 = .ok (.ifCond .eq 16, 3) := by decide +kernel
theorem dX1_pagesWithHint_18 : decode cX1_pagesWithHint 18 = .ok (.aload_n 0, 1) := by decide +kernel
theorem dX1_pagesWithHint_19 : decode cX1_pagesWithHint 19 = .ok (.getfield 15, 3) := by decide +kernel
theorem dX1_pagesWithHint_22 : decode cX1_pagesWithHint 22 = .ok (.iload_n 3, 1) := by decide +kernel
theorem dX1_pagesWithHint_23 : decode cX1_pagesWithHint 23 = .ok (.iaload, 1) := by decide +kernel
theorem dX1_pagesWithHint_24 : decode cX1_pagesWithHint 24 = .ok (.iload_n 1, 1) := by decide +kernel
theorem dX1_pagesWithHint_25 : decode cX1_pagesWithHint 25 = .ok (.if_icmp .ne 6, 3) := by decide +kernel
theorem dX1_pagesWithHint_28 : decode cX1_pagesWithHint 28 = .ok (.iinc 2 1, 3) := by decide +kernel
theorem dX1_pagesWithHint_31 : decode cX1_pagesWithHint 31 = .ok (.iinc 3 1, 3) := by decide +kernel
theorem dX1_pagesWithHint_34 : decode cX1_pagesWithHint 34 = .ok (.goto (-30), 3) := by decide +kernel
theorem dX1_pagesWithHint_37 : decode cX1_pagesWithHint 37 = .ok (.iload_n 2, 1) := by decide +kernel
theorem dX1_pagesWithHint_38 : decode cX1_pagesWithHint 38 = .ok (.ireturn, 1) := by decide +kernel
theorem dX1_percentOf_0 : decode cX1_percentOf 0 = .ok (.aload_n 0, 1) := by decide +kernel
theorem dX1_percentOf_1 : decode cX1_percentOf 1 = .ok (.getfield 48, 3) := by decide +kernel
theorem dX1_percentOf_4 : decode cX1_percentOf 4 = .ok (.iload_n 1, 1) := by decide +kernel
theorem dX1_percentOf_5 : decode cX1_percentOf 5 = .ok (.iaload, 1) := by decide +kernel
theorem dX1_percentOf_6 : decode cX1_percentOf 6 = .ok (.istore_n 2, 1) := by decide +kernel
theorem dX1_percentOf_7 : decode cX1_percentOf 7 = .ok (.iload_n 2, 1) := by decide +kernel
theorem dX1_percentOf_8 : decode cX1_percentOf 8 = .ok (.ifCond .ne 7, 3) := by decide +kernel
theorem dX1_percentOf_11 : decode cX1_percentOf 11 = .ok (.iconst 0, 1) := by decide +kernel
theorem dX1_percentOf_12 : decode cX1_percentOf 12 = .ok (.goto 16, 3) := by decide +kernel
theorem dX1_percentOf_15 : decode cX1_percentOf 15 = .ok (.bipush 100, 2) := by decide +kernel
theorem dX1_percentOf_17 : decode cX1_percentOf 17 = .ok (.iload_n 2, 1) := by decide +kernel
theorem dX1_percentOf_18 : decode cX1_percentOf 18 = .ok (.aload_n 0, 1) := by decide +kernel
theorem dX1_percentOf_19 : decode cX1_percentOf 19 = .ok (.getfield 51, 3) := by decide +kernel
theorem dX1_percentOf_22 : decode cX1_percentOf 22 = .ok (.iload_n 1, 1) := by decide +kernel
theorem dX1_percentOf_23 : decode cX1_percentOf 23 = .ok (.iaload, 1) := by decide +kernel
theorem dX1_percentOf_24 : decode cX1_percentOf 24 = .ok (.iadd, 1) := by decide +kernel
theorem dX1_percentOf_25 : decode cX1_percentOf 25 = .ok (.imul, 1) := by decide +kernel
theorem dX1_percentOf_26 : decode cX1_percentOf 26 = .ok (.iload_n 2, 1) := by decide +kernel
theorem dX1_percentOf_27 : decode cX1_percentOf 27 = .ok (.idiv, 1) := by decide +kernel
theorem dX1_percentOf_28 : decode cX1_percentOf 28 = .ok (.ireturn, 1) := by decide +kernel
set_option maxRecDepth 20000 in
theorem ggX1_total_X1_sum : GoodIn wsX1_total wsX1_sum := goodIn_r _ [7] (by decide +kernel) (by decide +kernel)
set_option maxRecDepth 20000 in
theorem gX1_total_X1_sum : GoodIn wsX1_total (va_wsS RX1 149 yX1_sum wsX1_sum) := goodIn_app (goodIn_of _ (by decide +kernel)) ggX1_total_X1_sum
set_option maxRecDepth 20000 in
theorem ggX1_total_X1_openBlocks : GoodIn wsX1_total wsX1_openBlocks := goodIn_r _ [11, 12, 49, 50, 51, 52, 53, 54, 55, 56, 57, 58, 59, 60, 61, 62, 63, 64, 65] (by decide +kernel) (by decide +kernel)
set_option maxRecDepth 20000 in
theorem gX1_total_X1_openBlocks : GoodIn wsX1_total (wsV RX1 153 RX1 yX1_openBlocks wsX1_openBlocks) := goodIn_app (goodIn_of _ (by decide +kernel)) ggX1_total_X1_openBlocks
set_option maxRecDepth 20000 in
theorem ggX1_total_X1_writes : GoodIn wsX1_total wsX1_writes := goodIn_r _ [16, 17, 4, 5, 6, 7, 49, 50, 51, 52, 53, 54, 55, 56, 57, 58, 59, 60, 61, 62, 63, 64, 65] (by decide +kernel) (by decide +kernel)
set_option maxRecDepth 20000 in
theorem gX1_total_X1_writes : GoodIn wsX1_total (wsV RX1 156 RX1 yX1_writes wsX1_writes) := goodIn_app (goodIn_of _ (by decide +kernel)) ggX1_total_X1_writes
set_option maxRecDepth 20000 in
theorem ggX1_total_X1_copies : GoodIn wsX1_total wsX1_copies := goodIn_r _ [21, 22, 49, 50, 51, 52, 53, 54, 55, 56, 57, 58, 59, 60, 61, 62, 63, 64, 65] (by decide +kernel) (by decide +kernel)
set_option maxRecDepth 20000 in
theorem gX1_total_X1_copies : GoodIn wsX1_total (wsV RX1 86 RX1 yX1_copies wsX1_copies) := goodIn_app (goodIn_of _ (by decide +kernel)) ggX1_total_X1_copies
set_option maxRecDepth 20000 in
theorem ggX1_total_X1_erasures : GoodIn wsX1_total wsX1_erasures := goodIn_r _ [26, 27, 4, 5, 6, 7, 49, 50, 51, 52, 53, 54, 55, 56, 57, 58, 59, 60, 61, 62, 63, 64, 65] (by decide +kernel) (by decide +kernel)
set_option maxRecDepth 20000 in
theorem gX1_total_X1_erasures : GoodIn wsX1_total (wsV RX1 159 RX1 yX1_erasures wsX1_erasures) := goodIn_app (goodIn_of _ (by decide +kernel)) ggX1_total_X1_erasures
set_option maxRecDepth 20000 in
theorem ggX1_total_X1_spreadOfErasures : GoodIn wsX1_total wsX1_spreadOfErasures := goodIn_r _ [31, 27, 32, 33, 34, 35, 36, 37, 38, 49, 50, 51, 52, 53, 54, 55, 56, 57, 58, 59, 60, 61, 62, 63, 64, 65] (by decide +kernel) (by decide +kernel)
set_option maxRecDepth 20000 in
theorem gX1_total_X1_spreadOfErasures : GoodIn wsX1_total (wsV RX1 162 RX1 yX1_spreadOfErasures wsX1_spreadOfErasures) := goodIn_app (goodIn_of _ (by decide +kernel)) ggX1_total_X1_spreadOfErasures
set_option maxRecDepth 20000 in
theorem ggX1_total_X1_victim : GoodIn wsX1_total wsX1_victim := goodIn_r _ [42, 3, 1, 43, 44, 45, 6, 46, 47, 48, 27, 49, 50, 51, 52, 53, 54, 55, 56, 57, 58, 59, 60, 61, 62, 63, 64, 65] (by decide +kernel) (by decide +kernel)
set_option maxRecDepth 20000 in
theorem gX1_total_X1_victim : GoodIn wsX1_total (wsV RX1 106 RX1 yX1_victim wsX1_victim) := goodIn_app (goodIn_of _ (by decide +kernel)) ggX1_total_X1_victim
theorem dX1_total_0 : decode cX1_total 0 = .ok (.iload_n 1, 1) := by decide +kernel
theorem dX1_total_1 : decode cX1_total 1 = .ok (.tableswitch 133 0 9 #[55, 63, 68, 73, 86, 102, 113, 118, 123, 128], 55) := by decide +kernel
theorem dX1_total_56 : decode cX1_total 56 = .ok (.aload_n 0, 1) := by decide +kernel
theorem dX1_total_57 : decode cX1_total 57 = .ok (.getfield 36, 3) := by decide +kernel
theorem dX1_total_60 : decode cX1_total 60 = .ok (.invokestatic 149, 3) := by decide +kernel
theorem dX1_total_63 : decode cX1_total 63 = .ok (.ireturn, 1) := by decide +kernel
theorem dX1_total_64 : decode cX1_total 64 = .ok (.aload_n 0, 1) := by decide +kernel
theorem dX1_total_65 : decode cX1_total 65 = .ok (.getfield 57, 3) := by decide +kernel
theorem dX1_total_68 : decode cX1_total 68 = .ok (.ireturn, 1) := by decide +kernel
theorem dX1_total_69 : decode cX1_total 69 = .ok (.aload_n 0, 1) := by decide +kernel
theorem dX1_total_70 : decode cX1_total 70 = .ok (.invokevirtual 153, 3) := by decide +kernel
theorem dX1_total_73 : decode cX1_total 73 = .ok (.ireturn, 1) := by decide +kernel
theorem dX1_total_74 : decode cX1_total 74 = .ok (.bipush 12, 2) := by decide +kernel
theorem dX1_total_76 : decode cX1_total 76 = .ok (.aload_n 0, 1) := by decide +kernel
theorem dX1_total_77 : decode cX1_total 77 = .ok (.getfield 57, 3) := by decide +kernel
theorem dX1_total_80 : decode cX1_total 80 = .ok (.isub, 1) := by decide +kernel
theorem dX1_total_81 : decode cX1_total 81 = .ok (.aload_n 0, 1) := by decide +kernel
theorem dX1_total_82 : decode cX1_total 82 = .ok (.invokevirtual 153, 3) := by decide +kernel
theorem dX1_total_85 : decode cX1_total 85 = .ok (.isub, 1) := by decide +kernel
theorem dX1_total_86 : decode cX1_total 86 = .ok (.ireturn, 1) := by decide +kernel
theorem dX1_total_87 : decode cX1_total 87 = .ok (.aload_n 0, 1) := by decide +kernel
theorem dX1_total_88 : decode cX1_total 88 = .ok (.getfield 33, 3) := by decide +kernel
theorem dX1_total_91 : decode cX1_total 91 = .ok (.invokestatic 149, 3) := by decide +kernel
theorem dX1_total_94 : decode cX1_total 94 = .ok (.aload_n 0, 1) := by decide +kernel
theorem dX1_total_95 : decode cX1_total 95 = .ok (.getfield 36, 3) := by decide +kernel
theorem dX1_total_98 : decode cX1_total 98 = .ok (.invokestatic 149, 3) := by decide +kernel
theorem dX1_total_101 : decode cX1_total 101 = .ok (.isub, 1) := by decide +kernel
theorem dX1_total_102 : decode cX1_total 102 = .ok (.ireturn, 1) := by decide +kernel
theorem dX1_total_103 : decode cX1_total 103 = .ok (.bipush 96, 2) := by decide +kernel
theorem dX1_total_105 : decode cX1_total 105 = .ok (.aload_n 0, 1) := by decide +kernel
theorem dX1_total_106 : decode cX1_total 106 = .ok (.getfield 33, 3) := by decide +kernel
theorem dX1_total_109 : decode cX1_total 109 = .ok (.invokestatic 149, 3) := by decide +kernel
theorem dX1_total_112 : decode cX1_total 112 = .ok (.isub, 1) := by decide +kernel
theorem dX1_total_113 : decode cX1_total 113 = .ok (.ireturn, 1) := by decide +kernel
theorem dX1_total_114 : decode cX1_total 114 = .ok (.aload_n 0, 1) := by decide +kernel
theorem dX1_total_115 : decode cX1_total 115 = .ok (.invokevirtual 156, 3) := by decide +kernel
theorem dX1_total_118 : decode cX1_total 118 = .ok (.ireturn, 1) := by decide +kernel
theorem dX1_total_119 : decode cX1_total 119 = .ok (.aload_n 0, 1) := by decide +kernel
theorem dX1_total_120 : decode cX1_total 120 = .ok (.invokevirtual 86, 3) := by decide +kernel
theorem dX1_total_123 : decode cX1_total 123 = .ok (.ireturn, 1) := by decide +kernel
theorem dX1_total_124 : decode cX1_total 124 = .ok (.aload_n 0, 1) := by decide +kernel
theorem dX1_total_125 : decode cX1_total 125 = .ok (.invokevirtual 159, 3) := by decide +kernel
theorem dX1_total_128 : decode cX1_total 128 = .ok (.ireturn, 1) := by decide +kernel
theorem dX1_total_129 : decode cX1_total 129 = .ok (.aload_n 0, 1) := by decide +kernel
theorem dX1_total_130 : decode cX1_total 130 = .ok (.invokevirtual 162, 3) := by decide +kernel
theorem dX1_total_133 : decode cX1_total 133 = .ok (.ireturn, 1) := by decide +kernel
theorem dX1_total_134 : decode cX1_total 134 = .ok (.aload_n 0, 1) := by decide +kernel
theorem dX1_total_135 : decode cX1_total 135 = .ok (.invokevirtual 106, 3) := by decide +kernel
theorem dX1_total_138 : decode cX1_total 138 = .ok (.ireturn, 1) := by decide +kernel
set_option maxRecDepth 20000 in
theorem ggX1_writes_X1_sum : GoodIn wsX1_writes wsX1_sum := goodIn_r _ [5] (by decide +kernel) (by decide +kernel)
set_option maxRecDepth 20000 in
theorem gX1_writes_X1_sum : GoodIn wsX1_writes (va_wsS RX1 149 yX1_sum wsX1_sum) := goodIn_app (goodIn_of _ (by decide +kernel)) ggX1_writes_X1_sum
theorem dX1_writes_0 : decode cX1_writes 0 = .ok (.aload_n 0, 1) := by decide +kernel
theorem dX1_writes_1 : decode cX1_writes 1 = .ok (.getfield 18, 3) := by decide +kernel
theorem dX1_writes_4 : decode cX1_writes 4 = .ok (.invokestatic 149, 3) := by decide +kernel
theorem dX1_writes_7 : decode cX1_writes 7 = .ok (.ireturn, 1) := by decide +kernel
theorem dX1_copies_0 : decode cX1_copies 0 = .ok (.aload_n 0, 1) := by decide +kernel
theorem dX1_copies_1 : decode cX1_copies 1 = .ok (.getfield 48, 3) := by decide +kernel
theorem dX1_copies_4 : decode cX1_copies 4 = .ok (.iconst 4, 1) := by decide +kernel
theorem dX1_copies_5 : decode cX1_copies 5 = .ok (.iaload, 1) := by decide +kernel
theorem dX1_copies_6 : decode cX1_copies 6 = .ok (.ireturn, 1) := by decide +kernel
set_option maxRecDepth 20000 in
theorem ggX1_erasures_X1_sum : GoodIn wsX1_erasures wsX1_sum := goodIn_r _ [5] (by decide +kernel) (by decide +kernel)
set_option maxRecDepth 20000 in
theorem gX1_erasures_X1_sum : GoodIn wsX1_erasures (va_wsS RX1 149 yX1_sum wsX1_sum) := goodIn_app (goodIn_of _ (by decide +kernel)) ggX1_erasures_X1_sum
theorem dX1_erasures_0 : decode cX1_erasures 0 = .ok (.aload_n 0, 1) := by decide +kernel
theorem dX1_erasures_1 : decode cX1_erasures 1 = .ok (.getfield 39, 3) := by decide +kernel
theorem dX1_erasures_4 : decode cX1_erasures 4 = .ok (.invokestatic 149, 3) := by decide +kernel
theorem dX1_erasures_7 : decode cX1_erasures 7 = .ok (.ireturn, 1) := by decide +kernel
theorem dX1_openBlocks_0 : decode cX1_openBlocks 0 = .ok (.iconst 0, 1) := by decide +kernel
theorem dX1_openBlocks_1 : decode cX1_openBlocks 1 = .ok (.istore_n 1, 1) := by decide +kernel
theorem dX1_openBlocks_2 : decode cX1_openBlocks 2 = .ok (.iconst 0, 1) := by decide +kernel
theorem dX1_openBlocks_3 : decode cX1_openBlocks 3 = .ok (.istore_n 2, 1) := by decide +kernel
theorem dX1_openBlocks_4 : decode cX1_openBlocks 4 = .ok (.iload_n 2, 1) := by decide +kernel
theorem dX1_openBlocks_5 : decode cX1_openBlocks 5 = .ok (.iconst 5, 1) := by decide +kernel
theorem dX1_openBlocks_6 : decode cX1_openBlocks 6 = .ok (.if_icmp .ge 22, 3) := by decide +kernel
theorem dX1_openBlocks_9 : decode cX1_openBlocks 9 = .ok (.aload_n 0, 1) := by decide +kernel
theorem dX1_openBlocks_10 : decode cX1_openBlocks 10 = .ok (.getfield 45, 3) := by decide +kernel
theorem dX1_openBlocks_13 : decode cX1_openBlocks 13 = .ok (.iload_n 2, 1) := by decide +kernel
theorem dX1_openBlocks_14 : decode cX1_openBlocks 14 = .ok (.iaload, 1) := by decide +kernel
theorem dX1_openBlocks_15 : decode cX1_openBlocks 15 = .ok (.iconst (-1), 1) := by decide +kernel
theorem dX1_openBlocks_16 : decode cX1_openBlocks 16 = .ok (.if_icmp .eq 6, 3) := by decide +kernel
theorem dX1_openBlocks_19 : decode cX1_openBlocks 19 = .ok (.iinc 1 1, 3) := by decide +kernel
theorem dX1_openBlocks_22 : decode cX1_openBlocks 22 = .ok (.iinc 2 1, 3) := by decide +kernel
theorem dX1_openBlocks_25 : decode cX1_openBlocks 25 = .ok (.goto (-21), 3) := by decide +kernel
theorem dX1_openBlocks_28 : decode cX1_openBlocks 28 = .ok (.iload_n 1, 1) := by decide +kernel
theorem dX1_openBlocks_29 : decode cX1_openBlocks 29 = .ok (.ireturn, 1) := by decide +kernel
theorem dX1_spreadOfErasures_0 : decode cX1_spreadOfErasures 0 = .ok (.aload_n 0, 1) := by decide +kernel
theorem dX1_spreadOfErasures_1 : decode cX1_spreadOfErasures 1 = .ok (.getfield 39, 3) := by decide +kernel
theorem dX1_spreadOfErasures_4 : decode cX1_spreadOfErasures 4 = .ok (.iconst 0, 1) := by decide +kernel
theorem dX1_spreadOfErasures_5 : decode cX1_spreadOfErasures 5 = .ok (.iaload, 1) := by decide +kernel
theorem dX1_spreadOfErasures_6 : decode cX1_spreadOfErasures 6 = .ok (.istore_n 1, 1) := by decide +kernel
theorem dX1_spreadOfErasures_7 : decode cX1_spreadOfErasures 7 = .ok (.aload_n 0, 1) := by decide +kernel
theorem dX1_spreadOfErasures_8 : decode cX1_spreadOfErasures 8 = .ok (.getfield 39, 3) := by decide +kernel
theorem dX1_spreadOfErasures_11 : decode cX1_spreadOfErasures 11 = .ok (.iconst 0, 1) := by decide +kernel
theorem dX1_spreadOfErasures_12 : decode cX1_spreadOfErasures 12 = .ok (.iaload, 1) := by decide +kernel
theorem dX1_spreadOfErasures_13 : decode cX1_spreadOfErasures 13 = .ok (.istore_n 2, 1) := by decide +kernel
theorem dX1_spreadOfErasures_14 : decode cX1_spreadOfErasures 14 = .ok (.iconst 1, 1) := by decide +kernel
theorem dX1_spreadOfErasures_15 : decode cX1_spreadOfErasures 15 = .ok (.istore_n 3, 1) := by decide +kernel
theorem dX1_spreadOfErasures_16 : decode cX1_spreadOfErasures 16 = .ok (.iload_n 3, 1) := by decide +kernel
theorem dX1_spreadOfErasures_17 : decode cX1_spreadOfErasures 17 = .ok (.bipush 12, 2) := by decide +kernel
theorem dX1_spreadOfErasures_19 : decode cX1_spreadOfErasures 19 = .ok (.if_icmp .ge 31, 3) := by decide +kernel
theorem dX1_spreadOfErasures_22 : decode cX1_spreadOfErasures 22 = .ok (.iload_n 1, 1) := by decide +kernel
theorem dX1_spreadOfErasures_23 : decode cX1_spreadOfErasures 23 = .ok (.aload_n 0, 1) := by decide +kernel
theorem dX1_spreadOfErasures_24 : decode cX1_spreadOfErasures 24 = .ok (.getfield 39, 3) := by decide +kernel
theorem dX1_spreadOfErasures_27 : decode cX1_spreadOfErasures 27 = .ok (.iload_n 3, 1) := by decide +kernel
theorem dX1_spreadOfErasures_28 : decode cX1_spreadOfErasures 28 = .ok (.iaload, 1) := by decide +kernel
theorem dX1_spreadOfErasures_29 : decode cX1_spreadOfErasures 29 = .ok (.invokestatic 165, 3) := by decide +kernel
theorem dX1_spreadOfErasures_32 : decode cX1_spreadOfErasures 32 = .ok (.istore_n 1, 1) := by decide +kernel
theorem dX1_spreadOfErasures_33 : decode cX1_spreadOfErasures 33 = .ok (.iload_n 2, 1) := by decide +kernel
theorem dX1_spreadOfErasures_34 : decode cX1_spreadOfErasures 34 = .ok (.aload_n 0, 1) := by decide +kernel
theorem dX1_spreadOfErasures_35 : decode cX1_spreadOfErasures 35 = .ok (.getfield 39, 3) := by decide +kernel
theorem dX1_spreadOfErasures_38 : decode cX1_spreadOfErasures 38 = .ok (.iload_n 3, 1) := by decide +kernel
theorem dX1_spreadOfErasures_39 : decode cX1_spreadOfErasures 39 = .ok (.iaload, 1) := by decide +kernel
theorem dX1_spreadOfErasures_40 : decode cX1_spreadOfErasures 40 = .ok (.invokestatic 74, 3) := by decide +kernel
theorem dX1_spreadOfErasures_43 : decode cX1_spreadOfErasures 43 = .ok (.istore_n 2, 1) := by decide +kernel
theorem dX1_spreadOfErasures_44 : decode cX1_spreadOfErasures 44 = .ok (.iinc 3 1, 3) := by decide +kernel
theorem dX1_spreadOfErasures_47 : decode cX1_spreadOfErasures 47 = .ok (.goto (-31), 3) := by decide +kernel
theorem dX1_spreadOfErasures_50 : decode cX1_spreadOfErasures 50 = .ok (.iload_n 1, 1) := by decide +kernel
theorem dX1_spreadOfErasures_51 : decode cX1_spreadOfErasures 51 = .ok (.iload_n 2, 1) := by decide +kernel
theorem dX1_spreadOfErasures_52 : decode cX1_spreadOfErasures 52 = .ok (.isub, 1) := by decide +kernel
theorem dX1_spreadOfErasures_53 : decode cX1_spreadOfErasures 53 = .ok (.ireturn, 1) := by decide +kernel
theorem dX1_sum_0 : decode cX1_sum 0 = .ok (.iconst 0, 1) := by decide +kernel
theorem dX1_sum_1 : decode cX1_sum 1 = .ok (.istore_n 1, 1) := by decide +kernel
theorem dX1_sum_2 : decode cX1_sum 2 = .ok (.aload_n 0, 1) := by decide +kernel
theorem dX1_sum_3 : decode cX1_sum 3 = .ok (.astore_n 2, 1) := by decide +kernel
theorem dX1_sum_4 : decode cX1_sum 4 = .ok (.aload_n 2, 1) := by decide +kernel
theorem dX1_sum_5 : decode cX1_sum 5 = .ok (.arraylength, 1) := by decide +kernel
theorem dX1_sum_6 : decode cX1_sum 6 = .ok (.istore_n 3, 1) := by decide +kernel
theorem dX1_sum_7 : decode cX1_sum 7 = .ok (.iconst 0, 1) := by decide +kernel
theorem dX1_sum_8 : decode cX1_sum 8 = .ok (.istore 4, 2) := by decide +kernel
theorem dX1_sum_10 : decode cX1_sum 10 = .ok (.iload 4, 2) := by decide +kernel
theorem dX1_sum_12 : decode cX1_sum 12 = .ok (.iload_n 3, 1) := by decide +kernel
theorem dX1_sum_13 : decode cX1_sum 13 = .ok (.if_icmp .ge 20, 3) := by decide +kernel
theorem dX1_sum_16 : decode cX1_sum 16 = .ok (.aload_n 2, 1) := by decide +kernel
theorem dX1_sum_17 : decode cX1_sum 17 = .ok (.iload 4, 2) := by decide +kernel
theorem dX1_sum_19 : decode cX1_sum 19 = .ok (.iaload, 1) := by decide +kernel
theorem dX1_sum_20 : decode cX1_sum 20 = .ok (.istore 5, 2) := by decide +kernel
theorem dX1_sum_22 : decode cX1_sum 22 = .ok (.iload_n 1, 1) := by decide +kernel
theorem dX1_sum_23 : decode cX1_sum 23 = .ok (.iload 5, 2) := by decide +kernel
theorem dX1_sum_25 : decode cX1_sum 25 = .ok (.iadd, 1) := by decide +kernel
theorem dX1_sum_26 : decode cX1_sum 26 = .ok (.istore_n 1, 1) := by decide +kernel
theorem dX1_sum_27 : decode cX1_sum 27 = .ok (.iinc 4 1, 3) := by decide +kernel
theorem dX1_sum_30 : decode cX1_sum 30 = .ok (.goto (-20), 3) := by decide +kernel
theorem dX1_sum_33 : decode cX1_sum 33 = .ok (.iload_n 1, 1) := by decide +kernel
theorem dX1_sum_34 : decode cX1_sum 34 = .ok (.ireturn, 1) := by decide +kernel
end
section
set_option maxRecDepth 20000 in
theorem ggX2_init_X1_init : GoodIn wsX2_init wsX1_init := goodIn_r _ [20, 21, 2, 3, 11, 22, 23, 24, 25, 26, 27, 28, 29, 30, 31, 32, 33, 34, 35, 36, 37, 38, 39, 40, 41, 42, 50, 51, 52, 53, 54, 55, 56, 57, 58, 59, 60, 61, 62, 63, 64, 65, 66] (by decide +kernel) (by decide +kernel)
set_option maxRecDepth 20000 in
theorem gX2_init_X1_init : GoodIn wsX2_init (wsX1_init) := ggX2_init_X1_init
set_option maxRecDepth 20000 in
theorem ggX2_init_X0_init : GoodIn wsX2_init wsX0_init := goodIn_r _ [44, 45, 2, 3, 46, 47, 48, 49, 74, 75, 76, 77] (by decide +kernel) (by decide +kernel)
set_option maxRecDepth 20000 in
theorem gX2_init_X0_init_n36 : GoodIn wsX2_init (wsX0_init) := ggX2_init_X0_init
theorem dX2_init_0 : decode cX2_init 0 = .ok (.aload_n 0, 1) := by decide +kernel
theorem dX2_init_1 : decode cX2_init 1 = .ok (.invokespecial 1, 3) := by decide +kernel
theorem dX2_init_4 : decode cX2_init 4 = .ok (.aload_n 0, 1) := by decide +kernel
theorem dX2_init_5 : decode cX2_init 5 = .ok (.new 7, 3) := by decide +kernel
theorem dX2_init_8 : decode cX2_init 8 = .ok (.dup, 1) := by decide +kernel
theorem dX2_init_9 : decode cX2_init 9 = .ok (.invokespecial 9, 3) := by decide +kernel
theorem dX2_init_12 : decode cX2_init 12 = .ok (.putfield 10, 3) := by decide +kernel
theorem dX2_init_15 : decode cX2_init 15 = .ok (.aload_n 0, 1) := by decide +kernel
theorem dX2_init_16 : decode cX2_init 16 = .ok (.new 7, 3) := by decide +kernel
theorem dX2_init_19 : decode cX2_init 19 = .ok (.dup, 1) := by decide +kernel
theorem dX2_init_20 : decode cX2_init 20 = .ok (.invokespecial 9, 3) := by decide +kernel
theorem dX2_init_23 : decode cX2_init 23 = .ok (.putfield 16, 3) := by decide +kernel
theorem dX2_init_26 : decode cX2_init 26 = .ok (.aload_n 0, 1) := by decide +kernel
theorem dX2_init_27 : decode cX2_init 27 = .ok (.bipush 6, 2) := by decide +kernel
theorem dX2_init_29 : decode cX2_init 29 = .ok (.anewarray 7, 3) := by decide +kernel
theorem dX2_init_32 : decode cX2_init 32 = .ok (.putfield 19, 3) := by decide +kernel
theorem dX2_init_35 : decode cX2_init 35 = .ok (.aload_n 0, 1) := by decide +kernel
theorem dX2_init_36 : decode cX2_init 36 = .ok (.iconst 0, 1) := by decide +kernel
theorem dX2_init_37 : decode cX2_init 37 = .ok (.putfield 23, 3) := by decide +kernel
theorem dX2_init_40 : decode cX2_init 40 = .ok (.aload_n 0, 1) := by decide +kernel
theorem dX2_init_41 : decode cX2_init 41 = .ok (.bipush 60, 2) := by decide +kernel
theorem dX2_init_43 : decode cX2_init 43 = .ok (.newarray .int, 2) := by decide +kernel
theorem dX2_init_45 : decode cX2_init 45 = .ok (.putfield 27, 3) := by decide +kernel
theorem dX2_init_48 : decode cX2_init 48 = .ok (.aload_n 0, 1) := by decide +kernel
theorem dX2_init_49 : decode cX2_init 49 = .ok (.iconst 0, 1) := by decide +kernel
theorem dX2_init_50 : decode cX2_init 50 = .ok (.putfield 31, 3) := by decide +kernel
theorem dX2_init_53 : decode cX2_init 53 = .ok (.aload_n 0, 1) := by decide +kernel
theorem dX2_init_54 : decode cX2_init 54 = .ok (.new 34, 3) := by decide +kernel
theorem dX2_init_57 : decode cX2_init 57 = .ok (.dup, 1) := by decide +kernel
theorem dX2_init_58 : decode cX2_init 58 = .ok (.invokespecial 36, 3) := by decide +kernel
theorem dX2_init_61 : decode cX2_init 61 = .ok (.putfield 37, 3) := by decide +kernel
theorem dX2_init_64 : decode cX2_init 64 = .ok (.iconst 0, 1) := by decide +kernel
theorem dX2_init_65 : decode cX2_init 65 = .ok (.istore_n 1, 1) := by decide +kernel
theorem dX2_init_66 : decode cX2_init 66 = .ok (.iload_n 1, 1) := by decide +kernel
theorem dX2_init_67 : decode cX2_init 67 = .ok (.bipush 6, 2) := by decide +kernel
theorem dX2_init_69 : decode cX2_init 69 = .ok (.if_icmp .ge 22, 3) := by decide +kernel
theorem dX2_init_72 : decode cX2_init 72 = .ok (.aload_n 0, 1) := by decide +kernel
theorem dX2_init_73 : decode cX2_init 73 = .ok (.getfield 19, 3) := by decide +kernel
theorem dX2_init_76 : decode cX2_init 76 = .ok (.iload_n 1, 1) := by decide +kernel
theorem dX2_init_77 : decode cX2_init 77 = .ok (.new 7, 3) := by decide +kernel
theorem dX2_init_80 : decode cX2_init 80 = .ok (.dup, 1) := by decide +kernel
theorem dX2_init_81 : decode cX2_init 81 = .ok (.invokespecial 9, 3) := by decide +kernel
theorem dX2_init_84 : decode cX2_init 84 = .ok (.aastore, 1) := by decide +kernel
theorem dX2_init_85 : decode cX2_init 85 = .ok (.iinc 1 1, 3) := by decide +kernel
theorem dX2_init_88 : decode cX2_init 88 = .ok (.goto (-22), 3) := by decide +kernel
theorem dX2_init_91 : decode cX2_init 91 = .ok (.return_, 1) := by decide +kernel
set_option maxRecDepth 20000 in
theorem ggX2_write_X2_isIn : GoodIn wsX2_write wsX2_isIn := goodIn_r _ [9] (by decide +kernel) (by decide +kernel)
set_option maxRecDepth 20000 in
theorem gX2_write_X2_isIn : GoodIn wsX2_write (va_wsS RX2 41 yX2_isIn wsX2_isIn) := goodIn_app (goodIn_of _ (by decide +kernel)) ggX2_write_X2_isIn
set_option maxRecDepth 20000 in
theorem ggX2_write_X2_saveState : GoodIn wsX2_write wsX2_saveState := goodIn_r _ [13, 14, 15, 5, 16, 17, 18, 8, 19, 20, 21, 22, 23, 24, 25, 26, 27, 28, 29, 30, 31, 32, 33, 34, 35, 36, 37, 38, 39, 40, 41, 42, 43, 44, 45, 46, 47, 48, 49, 50, 51, 52, 98, 99, 100, 101, 102, 103, 104, 105, 106, 107, 108, 109, 110, 111, 112, 113, 114, 115, 116, 117, 118, 119, 120, 121] (by decide +kernel) (by decide +kernel)
set_option maxRecDepth 20000 in
theorem gX2_write_X2_saveState : GoodIn wsX2_write (wsV RX2 57 RX2 yX2_saveState wsX2_saveState) := goodIn_app (goodIn_of _ (by decide +kernel)) ggX2_write_X2_saveState
set_option maxRecDepth 20000 in
theorem ggX2_write_X1_writePages : GoodIn wsX2_write wsX1_writePages := goodIn_r _ [56, 57, 58, 59, 23, 60, 37, 61, 62, 63, 64, 39, 26, 29, 27, 65, 66, 67, 68, 40, 69, 70, 71, 72, 73, 32, 33, 74, 75, 76, 77, 35, 34, 78, 79, 80, 81, 28, 38, 82, 83, 84, 85, 30, 25, 86, 87, 88, 89, 36, 31, 90, 91, 92, 93, 41, 94, 95, 96, 97, 105, 106, 107, 108, 109, 110, 111, 112, 113, 114, 115, 116, 117, 118, 119, 120, 121] (by decide +kernel) (by decide +kernel)
set_option maxRecDepth 20000 in
theorem gX2_write_X1_writePages : GoodIn wsX2_write (wsV RX2 60 RX1 yX1_writePages wsX1_writePages) := goodIn_app (goodIn_of _ (by decide +kernel)) ggX2_write_X1_writePages
theorem dX2_write_0 : decode cX2_write 0 = .ok (.iload_n 1, 1) := by decide +kernel
theorem dX2_write_1 : decode cX2_write 1 = .ok (.bipush 40, 2) := by decide +kernel
theorem dX2_write_3 : decode cX2_write 3 = .ok (.invokestatic 41, 3) := by decide +kernel
theorem dX2_write_6 : decode cX2_write 6 = .ok (.ifCond .ne 13, 3) := by decide +kernel
theorem dX2_write_9 : decode cX2_write 9 = .ok (.new 45, 3) := by decide +kernel
theorem dX2_write_12 : decode cX2_write 12 = .ok (.dup, 1) := by decide +kernel
theorem dX2_write_13 : decode cX2_write 13 = .ok (.ldc 47, 2) := by decide +kernel
theorem dX2_write_15 : decode cX2_write 15 = .ok (.invokespecial 49, 3) := by decide +kernel
theorem dX2_write_18 : decode cX2_write 18 = .ok (.athrow, 1) := by decide +kernel
theorem dX2_write_19 : decode cX2_write 19 = .ok (.iload_n 2, 1) := by decide +kernel
theorem dX2_write_20 : decode cX2_write 20 = .ok (.iconst 4, 1) := by decide +kernel
theorem dX2_write_21 : decode cX2_write 21 = .ok (.invokestatic 41, 3) := by decide +kernel
theorem dX2_write_24 : decode cX2_write 24 = .ok (.ifCond .ne 13, 3) := by decide +kernel
theorem dX2_write_27 : decode cX2_write 27 = .ok (.new 52, 3) := by decide +kernel
theorem dX2_write_30 : decode cX2_write 30 = .ok (.dup, 1) := by decide +kernel
theorem dX2_write_31 : decode cX2_write 31 = .ok (.ldc 54, 2) := by decide +kernel
theorem dX2_write_33 : decode cX2_write 33 = .ok (.invokespecial 56, 3) := by decide +kernel
theorem dX2_write_36 : decode cX2_write 36 = .ok (.athrow, 1) := by decide +kernel
theorem dX2_write_37 : decode cX2_write 37 = .ok (.aload_n 0, 1) := by decide +kernel
theorem dX2_write_38 : decode cX2_write 38 = .ok (.invokevirtual 57, 3) := by decide +kernel
theorem dX2_write_41 : decode cX2_write 41 = .ok (.aload_n 0, 1) := by decide +kernel
theorem dX2_write_42 : decode cX2_write 42 = .ok (.getfield 10, 3) := by decide +kernel
theorem dX2_write_45 : decode cX2_write 45 = .ok (.iload_n 1, 1) := by decide +kernel
theorem dX2_write_46 : decode cX2_write 46 = .ok (.iload_n 1, 1) := by decide +kernel
theorem dX2_write_47 : decode cX2_write 47 = .ok (.iload_n 2, 1) := by decide +kernel
theorem dX2_write_48 : decode cX2_write 48 = .ok (.invokevirtual 60, 3) := by decide +kernel
theorem dX2_write_51 : decode cX2_write 51 = .ok (.ireturn, 1) := by decide +kernel
set_option maxRecDepth 20000 in
theorem ggX2_writeRow_X2_isIn : GoodIn wsX2_writeRow wsX2_isIn := goodIn_r _ [9] (by decide +kernel) (by decide +kernel)
set_option maxRecDepth 20000 in
theorem gX2_writeRow_X2_isIn : GoodIn wsX2_writeRow (va_wsS RX2 41 yX2_isIn wsX2_isIn) := goodIn_app (goodIn_of _ (by decide +kernel)) ggX2_writeRow_X2_isIn
set_option maxRecDepth 20000 in
theorem ggX2_writeRow_X2_saveState : GoodIn wsX2_writeRow wsX2_saveState := goodIn_r _ [13, 14, 15, 5, 16, 17, 18, 8, 19, 20, 21, 22, 23, 24, 25, 26, 27, 28, 29, 30, 31, 32, 33, 34, 35, 36, 37, 38, 39, 40, 41, 42, 43, 44, 45, 46, 47, 48, 49, 50, 51, 52, 98, 99, 100, 101, 102, 103, 104, 105, 106, 107, 108, 109, 110, 111, 112, 113, 114, 115, 116, 117, 118, 119, 120, 121] (by decide +kernel) (by decide +kernel)
set_option maxRecDepth 20000 in
theorem gX2_writeRow_X2_saveState : GoodIn wsX2_writeRow (wsV RX2 57 RX2 yX2_saveState wsX2_saveState) := goodIn_app (goodIn_of _ (by decide +kernel)) ggX2_writeRow_X2_saveState
set_option maxRecDepth 20000 in
theorem ggX2_writeRow_X1_writePages : GoodIn wsX2_writeRow wsX1_writePages := goodIn_r _ [56, 57, 58, 59, 23, 60, 37, 61, 62, 63, 64, 39, 26, 29, 27, 65, 66, 67, 68, 40, 69, 70, 71, 72, 73, 32, 33, 74, 75, 76, 77, 35, 34, 78, 79, 80, 81, 28, 38, 82, 83, 84, 85, 30, 25, 86, 87, 88, 89, 36, 31, 90, 91, 92, 93, 41, 94, 95, 96, 97, 105, 106, 107, 108, 109, 110, 111, 112, 113, 114, 115, 116, 117, 118, 119, 120, 121] (by decide +kernel) (by decide +kernel)
set_option maxRecDepth 20000 in
theorem gX2_writeRow_X1_writePages : GoodIn wsX2_writeRow (wsV RX2 60 RX1 yX1_writePages wsX1_writePages) := goodIn_app (goodIn_of _ (by decide +kernel)) ggX2_writeRow_X1_writePages
theorem dX2_writeRow_0 : decode cX2_writeRow 0 = .ok (.iload_n 1, 1) := by decide +kernel
theorem dX2_writeRow_1 : decode cX2_writeRow 1 = .ok (.bipush 40, 2) := by decide +kernel
theorem dX2_writeRow_3 : decode cX2_writeRow 3 = .ok (.invokestatic 41, 3) := by decide +kernel
theorem dX2_writeRow_6 : decode cX2_writeRow 6 = .ok (.ifCond .ne 13, 3) := by decide +kernel
theorem dX2_writeRow_9 : decode cX2_writeRow 9 = .ok (.new 45, 3) := by decide +kernel
theorem dX2_writeRow_12 : decode cX2_writeRow 12 = .ok (.dup, 1) := by decide +kernel
theorem dX2_writeRow_13 : decode cX2_writeRow 13 = .ok (.ldc 47, 2) := by decide +kernel
theorem dX2_writeRow_15 : decode cX2_writeRow 15 = .ok (.invokespecial 49, 3) := by decide +kernel
theorem dX2_writeRow_18 : decode cX2_writeRow 18 = .ok (.athrow, 1) := by decide +kernel
theorem dX2_writeRow_19 : decode cX2_writeRow 19 = .ok (.iload_n 2, 1) := by decide +kernel
theorem dX2_writeRow_20 : decode cX2_writeRow 20 = .ok (.iconst 1, 1) := by decide +kernel
theorem dX2_writeRow_21 : decode cX2_writeRow 21 = .ok (.if_icmp .lt 11, 3) := by decide +kernel
theorem dX2_writeRow_24 : decode cX2_writeRow 24 = .ok (.iload_n 2, 1) := by decide +kernel
theorem dX2_writeRow_25 : decode cX2_writeRow 25 = .ok (.bipush 40, 2) := by decide +kernel
theorem dX2_writeRow_27 : decode cX2_writeRow 27 = .ok (.iload_n 1, 1) := by decide +kernel
theorem dX2_writeRow_28 : decode cX2_writeRow 28 = .ok (.isub, 1) := by decide +kernel
theorem dX2_writeRow_29 : decode cX2_writeRow 29 = .ok (.if_icmp .le 13, 3) := by decide +kernel
theorem dX2_writeRow_32 : decode cX2_writeRow 32 = .ok (.new 52, 3) := by decide +kernel
theorem dX2_writeRow_35 : decode cX2_writeRow 35 = .ok (.dup, 1) := by decide +kernel
theorem dX2_writeRow_36 : decode cX2_writeRow 36 = .ok (.ldc 64, 2) := by decide +kernel
theorem dX2_writeRow_38 : decode cX2_writeRow 38 = .ok (.invokespecial 56, 3) := by decide +kernel
theorem dX2_writeRow_41 : decode cX2_writeRow 41 = .ok (.athrow, 1) := by decide +kernel
theorem dX2_writeRow_42 : decode cX2_writeRow 42 = .ok (.iload_n 3, 1) := by decide +kernel
theorem dX2_writeRow_43 : decode cX2_writeRow 43 = .ok (.iconst 4, 1) := by decide +kernel
theorem dX2_writeRow_44 : decode cX2_writeRow 44 = .ok (.invokestatic 41, 3) := by decide +kernel
theorem dX2_writeRow_47 : decode cX2_writeRow 47 = .ok (.ifCond .ne 13, 3) := by decide +kernel
theorem dX2_writeRow_50 : decode cX2_writeRow 50 = .ok (.new 52, 3) := by decide +kernel
theorem dX2_writeRow_53 : decode cX2_writeRow 53 = .ok (.dup, 1) := by decide +kernel
theorem dX2_writeRow_54 : decode cX2_writeRow 54 = .ok (.ldc 54, 2) := by decide +kernel
theorem dX2_writeRow_56 : decode cX2_writeRow 56 = .ok (.invokespecial 56, 3) := by decide +kernel
theorem dX2_writeRow_59 : decode cX2_writeRow 59 = .ok (.athrow, 1) := by decide +kernel
theorem dX2_writeRow_60 : decode cX2_writeRow 60 = .ok (.aload_n 0, 1) := by decide +kernel
theorem dX2_writeRow_61 : decode cX2_writeRow 61 = .ok (.invokevirtual 57, 3) := by decide +kernel
theorem dX2_writeRow_64 : decode cX2_writeRow 64 = .ok (.aload_n 0, 1) := by decide +kernel
theorem dX2_writeRow_65 : decode cX2_writeRow 65 = .ok (.getfield 10, 3) := by decide +kernel
theorem dX2_writeRow_68 : decode cX2_writeRow 68 = .ok (.iload_n 1, 1) := by decide +kernel
theorem dX2_writeRow_69 : decode cX2_writeRow 69 = .ok (.iload_n 1, 1) := by decide +kernel
theorem dX2_writeRow_70 : decode cX2_writeRow 70 = .ok (.iload_n 2, 1) := by decide +kernel
theorem dX2_writeRow_71 : decode cX2_writeRow 71 = .ok (.iadd, 1) := by decide +kernel
theorem dX2_writeRow_72 : decode cX2_writeRow 72 = .ok (.iconst 1, 1) := by decide +kernel
theorem dX2_writeRow_73 : decode cX2_writeRow 73 = .ok (.isub, 1) := by decide +kernel
theorem dX2_writeRow_74 : decode cX2_writeRow 74 = .ok (.iload_n 3, 1) := by decide +kernel
theorem dX2_writeRow_75 : decode cX2_writeRow 75 = .ok (.invokevirtual 60, 3) := by decide +kernel
theorem dX2_writeRow_78 : decode cX2_writeRow 78 = .ok (.ireturn, 1) := by decide +kernel
set_option maxRecDepth 20000 in
theorem ggX2_trim_X2_isIn : GoodIn wsX2_trim wsX2_isIn := goodIn_r _ [7] (by decide +kernel) (by decide +kernel)
set_option maxRecDepth 20000 in
theorem gX2_trim_X2_isIn : GoodIn wsX2_trim (va_wsS RX2 41 yX2_isIn wsX2_isIn) := goodIn_app (goodIn_of _ (by decide +kernel)) ggX2_trim_X2_isIn
set_option maxRecDepth 20000 in
theorem ggX2_trim_X2_saveState : GoodIn wsX2_trim wsX2_saveState := goodIn_r _ [11, 12, 13, 3, 14, 15, 16, 6, 17, 18, 19, 20, 21, 22, 23, 24, 25, 26, 27, 28, 29, 30, 31, 32, 33, 34, 35, 36, 37, 38, 39, 40, 41, 42, 43, 44, 45, 46, 47, 48, 49, 50, 63, 64, 65, 66, 67, 68, 69, 70, 71, 72, 73, 74, 75, 76, 77, 78, 79, 80, 81, 82, 83, 84, 85, 86] (by decide +kernel) (by decide +kernel)
set_option maxRecDepth 20000 in
theorem gX2_trim_X2_saveState : GoodIn wsX2_trim (wsV RX2 57 RX2 yX2_saveState wsX2_saveState) := goodIn_app (goodIn_of _ (by decide +kernel)) ggX2_trim_X2_saveState
set_option maxRecDepth 20000 in
theorem ggX2_trim_X1_blockOf : GoodIn wsX2_trim wsX1_blockOf := goodIn_r _ [54, 23, 55, 56, 57, 21, 58, 70, 71, 72, 73, 74, 75, 76, 77, 78, 79, 80, 81, 82, 83, 84, 85, 86] (by decide +kernel) (by decide +kernel)
set_option maxRecDepth 20000 in
theorem gX2_trim_X1_blockOf : GoodIn wsX2_trim (wsV RX2 66 RX1 yX1_blockOf wsX1_blockOf) := goodIn_app (goodIn_of _ (by decide +kernel)) ggX2_trim_X1_blockOf
set_option maxRecDepth 20000 in
theorem ggX2_trim_X1_forget : GoodIn wsX2_trim wsX1_forget := goodIn_r _ [62, 23, 31, 27, 70, 71, 72, 73, 74, 75, 76, 77, 78, 79, 80, 81, 82, 83, 84, 85, 86] (by decide +kernel) (by decide +kernel)
set_option maxRecDepth 20000 in
theorem gX2_trim_X1_forget : GoodIn wsX2_trim (wsV RX2 70 RX1 yX1_forget wsX1_forget) := goodIn_app (goodIn_of _ (by decide +kernel)) ggX2_trim_X1_forget
theorem dX2_trim_0 : decode cX2_trim 0 = .ok (.iload_n 1, 1) := by decide +kernel
theorem dX2_trim_1 : decode cX2_trim 1 = .ok (.bipush 40, 2) := by decide +kernel
theorem dX2_trim_3 : decode cX2_trim 3 = .ok (.invokestatic 41, 3) := by decide +kernel
theorem dX2_trim_6 : decode cX2_trim 6 = .ok (.ifCond .ne 13, 3) := by decide +kernel
theorem dX2_trim_9 : decode cX2_trim 9 = .ok (.new 45, 3) := by decide +kernel
theorem dX2_trim_12 : decode cX2_trim 12 = .ok (.dup, 1) := by decide +kernel
theorem dX2_trim_13 : decode cX2_trim 13 = .ok (.ldc 47, 2) := by decide +kernel
theorem dX2_trim_15 : decode cX2_trim 15 = .ok (.invokespecial 49, 3) := by decide +kernel
theorem dX2_trim_18 : decode cX2_trim 18 = .ok (.athrow, 1) := by decide +kernel
theorem dX2_trim_19 : decode cX2_trim 19 = .ok (.aload_n 0, 1) := by decide +kernel
theorem dX2_trim_20 : decode cX2_trim 20 = .ok (.invokevirtual 57, 3) := by decide +kernel
theorem dX2_trim_23 : decode cX2_trim 23 = .ok (.aload_n 0, 1) := by decide +kernel
theorem dX2_trim_24 : decode cX2_trim 24 = .ok (.getfield 10, 3) := by decide +kernel
theorem dX2_trim_27 : decode cX2_trim 27 = .ok (.iload_n 1, 1) := by decide +kernel
theorem dX2_trim_28 : decode cX2_trim 28 = .ok (.invokevirtual 66, 3) := by decide +kernel
theorem dX2_trim_31 : decode cX2_trim 31 = .ok (.istore_n 2, 1) := by decide +kernel
theorem dX2_trim_32 : decode cX2_trim 32 = .ok (.aload_n 0, 1) := by decide +kernel
theorem dX2_trim_33 : decode cX2_trim 33 = .ok (.getfield 10, 3) := by decide +kernel
theorem dX2_trim_36 : decode cX2_trim 36 = .ok (.iload_n 1, 1) := by decide +kernel
theorem dX2_trim_37 : decode cX2_trim 37 = .ok (.invokevirtual 70, 3) := by decide +kernel
theorem dX2_trim_40 : decode cX2_trim 40 = .ok (.iload_n 2, 1) := by decide +kernel
theorem dX2_trim_41 : decode cX2_trim 41 = .ok (.ireturn, 1) := by decide +kernel
set_option maxRecDepth 20000 in
theorem ggX2_hint_X2_isIn : GoodIn wsX2_hint wsX2_isIn := goodIn_r _ [12] (by decide +kernel) (by decide +kernel)
set_option maxRecDepth 20000 in
theorem gX2_hint_X2_isIn : GoodIn wsX2_hint (va_wsS RX2 41 yX2_isIn wsX2_isIn) := goodIn_app (goodIn_of _ (by decide +kernel)) ggX2_hint_X2_isIn
set_option maxRecDepth 20000 in
theorem ggX2_hint_X1_isWritten : GoodIn wsX2_hint wsX1_isWritten := goodIn_r _ [17, 18, 67, 68, 69, 70, 71, 72, 73, 74, 75, 76, 77, 78, 79, 80, 81, 82, 83] (by decide +kernel) (by decide +kernel)
set_option maxRecDepth 20000 in
theorem gX2_hint_X1_isWritten : GoodIn wsX2_hint (wsV RX2 74 RX1 yX1_isWritten wsX1_isWritten) := goodIn_app (goodIn_of _ (by decide +kernel)) ggX2_hint_X1_isWritten
set_option maxRecDepth 20000 in
theorem ggX2_hint_X2_saveState : GoodIn wsX2_hint wsX2_saveState := goodIn_r _ [22, 23, 24, 7, 25, 26, 27, 11, 28, 29, 30, 31, 16, 32, 18, 33, 34, 35, 36, 37, 38, 39, 40, 41, 42, 43, 44, 45, 46, 47, 48, 49, 50, 51, 52, 53, 54, 55, 56, 57, 58, 59, 60, 61, 62, 63, 64, 65, 66, 67, 68, 69, 70, 71, 72, 73, 74, 75, 76, 77, 78, 79, 80, 81, 82, 83] (by decide +kernel) (by decide +kernel)
set_option maxRecDepth 20000 in
theorem gX2_hint_X2_saveState : GoodIn wsX2_hint (wsV RX2 57 RX2 yX2_saveState wsX2_saveState) := goodIn_app (goodIn_of _ (by decide +kernel)) ggX2_hint_X2_saveState
theorem dX2_hint_0 : decode cX2_hint 0 = .ok (.iload_n 1, 1) := by decide +kernel
theorem dX2_hint_1 : decode cX2_hint 1 = .ok (.bipush 40, 2) := by decide +kernel
theorem dX2_hint_3 : decode cX2_hint 3 = .ok (.invokestatic 41, 3) := by decide +kernel
theorem dX2_hint_6 : decode cX2_hint 6 = .ok (.ifCond .ne 13, 3) := by decide +kernel
theorem dX2_hint_9 : decode cX2_hint 9 = .ok (.new 45, 3) := by decide +kernel
theorem dX2_hint_12 : decode cX2_hint 12 = .ok (.dup, 1) := by decide +kernel
theorem dX2_hint_13 : decode cX2_hint 13 = .ok (.ldc 47, 2) := by decide +kernel
theorem dX2_hint_15 : decode cX2_hint 15 = .ok (.invokespecial 49, 3) := by decide +kernel
theorem dX2_hint_18 : decode cX2_hint 18 = .ok (.athrow, 1) := by decide +kernel
theorem dX2_hint_19 : decode cX2_hint 19 = .ok (.iload_n 2, 1) := by decide +kernel
theorem dX2_hint_20 : decode cX2_hint 20 = .ok (.iconst 4, 1) := by decide +kernel
theorem dX2_hint_21 : decode cX2_hint 21 = .ok (.invokestatic 41, 3) := by decide +kernel
theorem dX2_hint_24 : decode cX2_hint 24 = .ok (.ifCond .ne 13, 3) := by decide +kernel
theorem dX2_hint_27 : decode cX2_hint 27 = .ok (.new 52, 3) := by decide +kernel
theorem dX2_hint_30 : decode cX2_hint 30 = .ok (.dup, 1) := by decide +kernel
theorem dX2_hint_31 : decode cX2_hint 31 = .ok (.ldc 54, 2) := by decide +kernel
theorem dX2_hint_33 : decode cX2_hint 33 = .ok (.invokespecial 56, 3) := by decide +kernel
theorem dX2_hint_36 : decode cX2_hint 36 = .ok (.athrow, 1) := by decide +kernel
theorem dX2_hint_37 : decode cX2_hint 37 = .ok (.aload_n 0, 1) := by decide +kernel
theorem dX2_hint_38 : decode cX2_hint 38 = .ok (.getfield 10, 3) := by decide +kernel
theorem dX2_hint_41 : decode cX2_hint 41 = .ok (.iload_n 1, 1) := by decide +kernel
theorem dX2_hint_42 : decode cX2_hint 42 = .ok (.invokevirtual 74, 3) := by decide +kernel
theorem dX2_hint_45 : decode cX2_hint 45 = .ok (.ifCond .ne 13, 3) := by decide +kernel
theorem dX2_hint_48 : decode cX2_hint 48 = .ok (.new 78, 3) := by decide +kernel
theorem dX2_hint_51 : decode cX2_hint 51 = .ok (.dup, 1) := by decide +kernel
theorem dX2_hint_52 : decode cX2_hint 52 = .ok (.ldc 80, 2) := by decide +kernel
theorem dX2_hint_54 : decode cX2_hint 54 = .ok (.invokespecial 82, 3) := by decide +kernel
theorem dX2_hint_57 : decode cX2_hint 57 = .ok (.athrow, 1) := by decide +kernel
theorem dX2_hint_58 : decode cX2_hint 58 = .ok (.aload_n 0, 1) := by decide +kernel
theorem dX2_hint_59 : decode cX2_hint 59 = .ok (.invokevirtual 57, 3) := by decide +kernel
theorem dX2_hint_62 : decode cX2_hint 62 = .ok (.aload_n 0, 1) := by decide +kernel
theorem dX2_hint_63 : decode cX2_hint 63 = .ok (.getfield 10, 3) := by decide +kernel
theorem dX2_hint_66 : decode cX2_hint 66 = .ok (.getfield 83, 3) := by decide +kernel
theorem dX2_hint_69 : decode cX2_hint 69 = .ok (.iload_n 1, 1) := by decide +kernel
theorem dX2_hint_70 : decode cX2_hint 70 = .ok (.iaload, 1) := by decide +kernel
theorem dX2_hint_71 : decode cX2_hint 71 = .ok (.istore_n 3, 1) := by decide +kernel
theorem dX2_hint_72 : decode cX2_hint 72 = .ok (.aload_n 0, 1) := by decide +kernel
theorem dX2_hint_73 : decode cX2_hint 73 = .ok (.getfield 10, 3) := by decide +kernel
theorem dX2_hint_76 : decode cX2_hint 76 = .ok (.getfield 83, 3) := by decide +kernel
theorem dX2_hint_79 : decode cX2_hint 79 = .ok (.iload_n 1, 1) := by decide +kernel
theorem dX2_hint_80 : decode cX2_hint 80 = .ok (.iload_n 2, 1) := by decide +kernel
theorem dX2_hint_81 : decode cX2_hint 81 = .ok (.iastore, 1) := by decide +kernel
theorem dX2_hint_82 : decode cX2_hint 82 = .ok (.iload_n 3, 1) := by decide +kernel
theorem dX2_hint_83 : decode cX2_hint 83 = .ok (.ireturn, 1) := by decide +kernel
set_option maxRecDepth 20000 in
theorem ggX2_collect_X2_isIn : GoodIn wsX2_collect wsX2_isIn := goodIn_r _ [9] (by decide +kernel) (by decide +kernel)
set_option maxRecDepth 20000 in
theorem gX2_collect_X2_isIn : GoodIn wsX2_collect (va_wsS RX2 41 yX2_isIn wsX2_isIn) := goodIn_app (goodIn_of _ (by decide +kernel)) ggX2_collect_X2_isIn
set_option maxRecDepth 20000 in
theorem ggX2_collect_X1_stateOf : GoodIn wsX2_collect wsX1_stateOf := goodIn_r _ [14, 15, 16, 88, 89, 90, 91, 92, 93, 94, 95, 96, 97, 98, 99, 100, 101, 102, 103, 104] (by decide +kernel) (by decide +kernel)
set_option maxRecDepth 20000 in
theorem gX2_collect_X1_stateOf : GoodIn wsX2_collect (wsV RX2 88 RX1 yX1_stateOf wsX1_stateOf) := goodIn_app (goodIn_of _ (by decide +kernel)) ggX2_collect_X1_stateOf
set_option maxRecDepth 20000 in
theorem ggX2_collect_X2_saveState : GoodIn wsX2_collect wsX2_saveState := goodIn_r _ [20, 21, 22, 5, 23, 24, 25, 8, 26, 27, 28, 29, 13, 30, 31, 32, 33, 34, 35, 36, 15, 16, 37, 38, 39, 40, 41, 42, 43, 44, 45, 46, 47, 48, 49, 50, 51, 52, 53, 54, 55, 56, 81, 82, 83, 84, 85, 86, 87, 88, 89, 90, 91, 92, 93, 94, 95, 96, 97, 98, 99, 100, 101, 102, 103, 104] (by decide +kernel) (by decide +kernel)
set_option maxRecDepth 20000 in
theorem gX2_collect_X2_saveState : GoodIn wsX2_collect (wsV RX2 57 RX2 yX2_saveState wsX2_saveState) := goodIn_app (goodIn_of _ (by decide +kernel)) ggX2_collect_X2_saveState
set_option maxRecDepth 20000 in
theorem ggX2_collect_X1_copies : GoodIn wsX2_collect wsX1_copies := goodIn_r _ [60, 41, 88, 89, 90, 91, 92, 93, 94, 95, 96, 97, 98, 99, 100, 101, 102, 103, 104] (by decide +kernel) (by decide +kernel)
set_option maxRecDepth 20000 in
theorem gX2_collect_X1_copies : GoodIn wsX2_collect (wsV RX2 93 RX1 yX1_copies wsX1_copies) := goodIn_app (goodIn_of _ (by decide +kernel)) ggX2_collect_X1_copies
set_option maxRecDepth 20000 in
theorem ggX2_collect_X1_collectBlock : GoodIn wsX2_collect wsX1_collectBlock := goodIn_r _ [64, 34, 35, 42, 32, 65, 66, 67, 13, 68, 36, 31, 69, 70, 71, 72, 40, 15, 38, 44, 73, 74, 75, 76, 16, 37, 41, 39, 45, 77, 78, 79, 80, 88, 89, 90, 91, 92, 93, 94, 95, 96, 97, 98, 99, 100, 101, 102, 103, 104] (by decide +kernel) (by decide +kernel)
set_option maxRecDepth 20000 in
theorem gX2_collect_X1_collectBlock : GoodIn wsX2_collect (wsV RX2 97 RX1 yX1_collectBlock wsX1_collectBlock) := goodIn_app (goodIn_of _ (by decide +kernel)) ggX2_collect_X1_collectBlock
theorem dX2_collect_0 : decode cX2_collect 0 = .ok (.iload_n 1, 1) := by decide +kernel
theorem dX2_collect_1 : decode cX2_collect 1 = .ok (.bipush 12, 2) := by decide +kernel
theorem dX2_collect_3 : decode cX2_collect 3 = .ok (.invokestatic 41, 3) := by decide +kernel
theorem dX2_collect_6 : decode cX2_collect 6 = .ok (.ifCond .ne 13, 3) := by decide +kernel
theorem dX2_collect_9 : decode cX2_collect 9 = .ok (.new 45, 3) := by decide +kernel
theorem dX2_collect_12 : decode cX2_collect 12 = .ok (.dup, 1) := by decide +kernel
theorem dX2_collect_13 : decode cX2_collect 13 = .ok (.ldc 86, 2) := by decide +kernel
theorem dX2_collect_15 : decode cX2_collect 15 = .ok (.invokespecial 49, 3) := by decide +kernel
theorem dX2_collect_18 : decode cX2_collect 18 = .ok (.athrow, 1) := by decide +kernel
theorem dX2_collect_19 : decode cX2_collect 19 = .ok (.aload_n 0, 1) := by decide +kernel
theorem dX2_collect_20 : decode cX2_collect 20 = .ok (.getfield 10, 3) := by decide +kernel
theorem dX2_collect_23 : decode cX2_collect 23 = .ok (.iload_n 1, 1) := by decide +kernel
theorem dX2_collect_24 : decode cX2_collect 24 = .ok (.invokevirtual 88, 3) := by decide +kernel
theorem dX2_collect_27 : decode cX2_collect 27 = .ok (.iconst 2, 1) := by decide +kernel
theorem dX2_collect_28 : decode cX2_collect 28 = .ok (.if_icmp .eq 13, 3) := by decide +kernel
theorem dX2_collect_31 : decode cX2_collect 31 = .ok (.new 78, 3) := by decide +kernel
theorem dX2_collect_34 : decode cX2_collect 34 = .ok (.dup, 1) := by decide +kernel
theorem dX2_collect_35 : decode cX2_collect 35 = .ok (.ldc 91, 2) := by decide +kernel
theorem dX2_collect_37 : decode cX2_collect 37 = .ok (.invokespecial 82, 3) := by decide +kernel
theorem dX2_collect_40 : decode cX2_collect 40 = .ok (.athrow, 1) := by decide +kernel
theorem dX2_collect_41 : decode cX2_collect 41 = .ok (.aload_n 0, 1) := by decide +kernel
theorem dX2_collect_42 : decode cX2_collect 42 = .ok (.invokevirtual 57, 3) := by decide +kernel
theorem dX2_collect_45 : decode cX2_collect 45 = .ok (.aload_n 0, 1) := by decide +kernel
theorem dX2_collect_46 : decode cX2_collect 46 = .ok (.getfield 10, 3) := by decide +kernel
theorem dX2_collect_49 : decode cX2_collect 49 = .ok (.invokevirtual 93, 3) := by decide +kernel
theorem dX2_collect_52 : decode cX2_collect 52 = .ok (.istore_n 2, 1) := by decide +kernel
theorem dX2_collect_53 : decode cX2_collect 53 = .ok (.aload_n 0, 1) := by decide +kernel
theorem dX2_collect_54 : decode cX2_collect 54 = .ok (.getfield 10, 3) := by decide +kernel
theorem dX2_collect_57 : decode cX2_collect 57 = .ok (.iload_n 1, 1) := by decide +kernel
theorem dX2_collect_58 : decode cX2_collect 58 = .ok (.invokevirtual 97, 3) := by decide +kernel
theorem dX2_collect_61 : decode cX2_collect 61 = .ok (.aload_n 0, 1) := by decide +kernel
theorem dX2_collect_62 : decode cX2_collect 62 = .ok (.getfield 10, 3) := by decide +kernel
theorem dX2_collect_65 : decode cX2_collect 65 = .ok (.invokevirtual 93, 3) := by decide +kernel
theorem dX2_collect_68 : decode cX2_collect 68 = .ok (.iload_n 2, 1) := by decide +kernel
theorem dX2_collect_69 : decode cX2_collect 69 = .ok (.isub, 1) := by decide +kernel
theorem dX2_collect_70 : decode cX2_collect 70 = .ok (.ireturn, 1) := by decide +kernel
set_option maxRecDepth 20000 in
theorem ggX2_tidy_X2_saveState : GoodIn wsX2_tidy wsX2_saveState := goodIn_r _ [8, 9, 10, 3, 11, 12, 13, 7, 14, 15, 16, 17, 18, 19, 20, 21, 22, 23, 24, 25, 26, 27, 28, 29, 30, 31, 32, 33, 34, 35, 36, 37, 38, 39, 40, 41, 42, 43, 44, 45, 46, 47, 81, 82, 83, 84, 85, 86, 87, 88, 89, 90, 91, 92, 93, 94, 95, 96, 97, 98, 99, 100, 101, 102, 103, 104] (by decide +kernel) (by decide +kernel)
set_option maxRecDepth 20000 in
theorem gX2_tidy_X2_saveState : GoodIn wsX2_tidy (wsV RX2 57 RX2 yX2_saveState wsX2_saveState) := goodIn_app (goodIn_of _ (by decide +kernel)) ggX2_tidy_X2_saveState
set_option maxRecDepth 20000 in
theorem ggX2_tidy_X1_collectVictims : GoodIn wsX2_tidy wsX1_collectVictims := goodIn_r _ [51, 35, 52, 53, 54, 55, 18, 56, 27, 28, 57, 58, 59, 60, 34, 30, 29, 61, 62, 63, 64, 23, 24, 33, 21, 65, 66, 67, 68, 25, 20, 69, 70, 71, 72, 31, 26, 73, 74, 75, 76, 32, 36, 77, 78, 79, 80, 88, 89, 90, 91, 92, 93, 94, 95, 96, 97, 98, 99, 100, 101, 102, 103, 104] (by decide +kernel) (by decide +kernel)
set_option maxRecDepth 20000 in
theorem gX2_tidy_X1_collectVictims : GoodIn wsX2_tidy (wsV RX2 102 RX1 yX1_collectVictims wsX1_collectVictims) := goodIn_app (goodIn_of _ (by decide +kernel)) ggX2_tidy_X1_collectVictims
theorem dX2_tidy_0 : decode cX2_tidy 0 = .ok (.iload_n 1, 1) := by decide +kernel
theorem dX2_tidy_1 : decode cX2_tidy 1 = .ok (.iconst 1, 1) := by decide +kernel
theorem dX2_tidy_2 : decode cX2_tidy 2 = .ok (.if_icmp .lt 9, 3) := by decide +kernel
theorem dX2_tidy_5 : decode cX2_tidy 5 = .ok (.iload_n 1, 1) := by decide +kernel
theorem dX2_tidy_6 : decode cX2_tidy 6 = .ok (.bipush 12, 2) := by decide +kernel
theorem dX2_tidy_8 : decode cX2_tidy 8 = .ok (.if_icmp .le 13, 3) := by decide +kernel
theorem dX2_tidy_11 : decode cX2_tidy 11 = .ok (.new 52, 3) := by decide +kernel
theorem dX2_tidy_14 : decode cX2_tidy 14 = .ok (.dup, 1) := by decide +kernel
theorem dX2_tidy_15 : decode cX2_tidy 15 = .ok (.ldc 100, 2) := by decide +kernel
theorem dX2_tidy_17 : decode cX2_tidy 17 = .ok (.invokespecial 56, 3) := by decide +kernel
theorem dX2_tidy_20 : decode cX2_tidy 20 = .ok (.athrow, 1) := by decide +kernel
theorem dX2_tidy_21 : decode cX2_tidy 21 = .ok (.aload_n 0, 1) := by decide +kernel
theorem dX2_tidy_22 : decode cX2_tidy 22 = .ok (.invokevirtual 57, 3) := by decide +kernel
theorem dX2_tidy_25 : decode cX2_tidy 25 = .ok (.aload_n 0, 1) := by decide +kernel
theorem dX2_tidy_26 : decode cX2_tidy 26 = .ok (.getfield 10, 3) := by decide +kernel
theorem dX2_tidy_29 : decode cX2_tidy 29 = .ok (.iload_n 1, 1) := by decide +kernel
theorem dX2_tidy_30 : decode cX2_tidy 30 = .ok (.invokevirtual 102, 3) := by decide +kernel
theorem dX2_tidy_33 : decode cX2_tidy 33 = .ok (.ireturn, 1) := by decide +kernel
set_option maxRecDepth 20000 in
theorem ggX2_set_X2_isIn : GoodIn wsX2_set wsX2_isIn := goodIn_r _ [10] (by decide +kernel) (by decide +kernel)
set_option maxRecDepth 20000 in
theorem gX2_set_X2_isIn : GoodIn wsX2_set (va_wsS RX2 41 yX2_isIn wsX2_isIn) := goodIn_app (goodIn_of _ (by decide +kernel)) ggX2_set_X2_isIn
set_option maxRecDepth 20000 in
theorem ggX2_set_X2_isSettingValue : GoodIn wsX2_set wsX2_isSettingValue := goodIn_r _ [13, 7, 8, 9, 10] (by decide +kernel) (by decide +kernel)
set_option maxRecDepth 20000 in
theorem gX2_set_X2_isSettingValue : GoodIn wsX2_set (va_wsS RX2 107 yX2_isSettingValue wsX2_isSettingValue) := goodIn_app (goodIn_of _ (by decide +kernel)) ggX2_set_X2_isSettingValue
set_option maxRecDepth 20000 in
theorem ggX2_set_X2_saveState : GoodIn wsX2_set wsX2_saveState := goodIn_r _ [17, 18, 19, 5, 20, 21, 22, 9, 23, 24, 25, 26, 27, 28, 29, 30, 31, 32, 33, 34, 35, 36, 37, 38, 39, 40, 41, 42, 43, 44, 45, 46, 47, 48, 49, 50, 51, 52, 53, 54, 55, 56, 57, 58, 59, 60, 61, 62, 63, 64, 65, 66, 67, 68, 69, 70, 71, 72, 73, 74, 75, 76, 77, 78, 79, 80] (by decide +kernel) (by decide +kernel)
set_option maxRecDepth 20000 in
theorem gX2_set_X2_saveState : GoodIn wsX2_set (wsV RX2 57 RX2 yX2_saveState wsX2_saveState) := goodIn_app (goodIn_of _ (by decide +kernel)) ggX2_set_X2_saveState
theorem dX2_set_0 : decode cX2_set 0 = .ok (.iload_n 1, 1) := by decide +kernel
theorem dX2_set_1 : decode cX2_set 1 = .ok (.iconst 2, 1) := by decide +kernel
theorem dX2_set_2 : decode cX2_set 2 = .ok (.invokestatic 41, 3) := by decide +kernel
theorem dX2_set_5 : decode cX2_set 5 = .ok (.ifCond .ne 13, 3) := by decide +kernel
theorem dX2_set_8 : decode cX2_set 8 = .ok (.new 45, 3) := by decide +kernel
theorem dX2_set_11 : decode cX2_set 11 = .ok (.dup, 1) := by decide +kernel
theorem dX2_set_12 : decode cX2_set 12 = .ok (.ldc 105, 2) := by decide +kernel
theorem dX2_set_14 : decode cX2_set 14 = .ok (.invokespecial 49, 3) := by decide +kernel
theorem dX2_set_17 : decode cX2_set 17 = .ok (.athrow, 1) := by decide +kernel
theorem dX2_set_18 : decode cX2_set 18 = .ok (.iload_n 1, 1) := by decide +kernel
theorem dX2_set_19 : decode cX2_set 19 = .ok (.iload_n 2, 1) := by decide +kernel
theorem dX2_set_20 : decode cX2_set 20 = .ok (.invokestatic 107, 3) := by decide +kernel
theorem dX2_set_23 : decode cX2_set 23 = .ok (.ifCond .ne 13, 3) := by decide +kernel
theorem dX2_set_26 : decode cX2_set 26 = .ok (.new 52, 3) := by decide +kernel
theorem dX2_set_29 : decode cX2_set 29 = .ok (.dup, 1) := by decide +kernel
theorem dX2_set_30 : decode cX2_set 30 = .ok (.ldc 110, 2) := by decide +kernel
theorem dX2_set_32 : decode cX2_set 32 = .ok (.invokespecial 56, 3) := by decide +kernel
theorem dX2_set_35 : decode cX2_set 35 = .ok (.athrow, 1) := by decide +kernel
theorem dX2_set_36 : decode cX2_set 36 = .ok (.aload_n 0, 1) := by decide +kernel
theorem dX2_set_37 : decode cX2_set 37 = .ok (.invokevirtual 57, 3) := by decide +kernel
theorem dX2_set_40 : decode cX2_set 40 = .ok (.aload_n 0, 1) := by decide +kernel
theorem dX2_set_41 : decode cX2_set 41 = .ok (.getfield 10, 3) := by decide +kernel
theorem dX2_set_44 : decode cX2_set 44 = .ok (.getfield 112, 3) := by decide +kernel
theorem dX2_set_47 : decode cX2_set 47 = .ok (.iload_n 1, 1) := by decide +kernel
theorem dX2_set_48 : decode cX2_set 48 = .ok (.iaload, 1) := by decide +kernel
theorem dX2_set_49 : decode cX2_set 49 = .ok (.istore_n 3, 1) := by decide +kernel
theorem dX2_set_50 : decode cX2_set 50 = .ok (.aload_n 0, 1) := by decide +kernel
theorem dX2_set_51 : decode cX2_set 51 = .ok (.getfield 10, 3) := by decide +kernel
theorem dX2_set_54 : decode cX2_set 54 = .ok (.getfield 112, 3) := by decide +kernel
theorem dX2_set_57 : decode cX2_set 57 = .ok (.iload_n 1, 1) := by decide +kernel
theorem dX2_set_58 : decode cX2_set 58 = .ok (.iload_n 2, 1) := by decide +kernel
theorem dX2_set_59 : decode cX2_set 59 = .ok (.iastore, 1) := by decide +kernel
theorem dX2_set_60 : decode cX2_set 60 = .ok (.iload_n 3, 1) := by decide +kernel
theorem dX2_set_61 : decode cX2_set 61 = .ok (.ireturn, 1) := by decide +kernel
theorem dX2_append_0 : decode cX2_append 0 = .ok (.iload_n 1, 1) := by decide +kernel
theorem dX2_append_1 : decode cX2_append 1 = .ok (.bipush 33, 2) := by decide +kernel
theorem dX2_append_3 : decode cX2_append 3 = .ok (.if_icmp .lt 9, 3) := by decide +kernel
theorem dX2_append_6 : decode cX2_append 6 = .ok (.iload_n 1, 1) := by decide +kernel
theorem dX2_append_7 : decode cX2_append 7 = .ok (.bipush 126, 2) := by decide +kernel
theorem dX2_append_9 : decode cX2_append 9 = .ok (.if_icmp .le 13, 3) := by decide +kernel
theorem dX2_append_12 : decode cX2_append 12 = .ok (.new 52, 3) := by decide +kernel
theorem dX2_append_15 : decode cX2_append 15 = .ok (.dup, 1) := by decide +kernel
theorem dX2_append_16 : decode cX2_append 16 = .ok (.ldc 115, 2) := by decide +kernel
theorem dX2_append_18 : decode cX2_append 18 = .ok (.invokespecial 56, 3) := by decide +kernel
theorem dX2_append_21 : decode cX2_append 21 = .ok (.athrow, 1) := by decide +kernel
theorem dX2_append_22 : decode cX2_append 22 = .ok (.aload_n 0, 1) := by decide +kernel
theorem dX2_append_23 : decode cX2_append 23 = .ok (.getfield 31, 3) := by decide +kernel
theorem dX2_append_26 : decode cX2_append 26 = .ok (.bipush 60, 2) := by decide +kernel
theorem dX2_append_28 : decode cX2_append 28 = .ok (.if_icmp .lt 13, 3) := by decide +kernel
theorem dX2_append_31 : decode cX2_append 31 = .ok (.new 78, 3) := by decide +kernel
theorem dX2_append_34 : decode cX2_append 34 = .ok (.dup, 1) := by decide +kernel
theorem dX2_append_35 : decode cX2_append 35 = .ok (.ldc 117, 2) := by decide +kernel
theorem dX2_append_37 : decode cX2_append 37 = .ok (.invokespecial 82, 3) := by decide +kernel
theorem dX2_append_40 : decode cX2_append 40 = .ok (.athrow, 1) := by decide +kernel
theorem dX2_append_41 : decode cX2_append 41 = .ok (.aload_n 0, 1) := by decide +kernel
theorem dX2_append_42 : decode cX2_append 42 = .ok (.getfield 27, 3) := by decide +kernel
theorem dX2_append_45 : decode cX2_append 45 = .ok (.aload_n 0, 1) := by decide +kernel
theorem dX2_append_46 : decode cX2_append 46 = .ok (.getfield 31, 3) := by decide +kernel
theorem dX2_append_49 : decode cX2_append 49 = .ok (.iload_n 1, 1) := by decide +kernel
theorem dX2_append_50 : decode cX2_append 50 = .ok (.iastore, 1) := by decide +kernel
theorem dX2_append_51 : decode cX2_append 51 = .ok (.aload_n 0, 1) := by decide +kernel
theorem dX2_append_52 : decode cX2_append 52 = .ok (.dup, 1) := by decide +kernel
theorem dX2_append_53 : decode cX2_append 53 = .ok (.getfield 31, 3) := by decide +kernel
theorem dX2_append_56 : decode cX2_append 56 = .ok (.iconst 1, 1) := by decide +kernel
theorem dX2_append_57 : decode cX2_append 57 = .ok (.iadd, 1) := by decide +kernel
theorem dX2_append_58 : decode cX2_append 58 = .ok (.putfield 31, 3) := by decide +kernel
theorem dX2_append_61 : decode cX2_append 61 = .ok (.aload_n 0, 1) := by decide +kernel
theorem dX2_append_62 : decode cX2_append 62 = .ok (.getfield 31, 3) := by decide +kernel
theorem dX2_append_65 : decode cX2_append 65 = .ok (.ireturn, 1) := by decide +kernel
theorem dX2_clearBuffer_0 : decode cX2_clearBuffer 0 = .ok (.aload_n 0, 1) := by decide +kernel
theorem dX2_clearBuffer_1 : decode cX2_clearBuffer 1 = .ok (.getfield 31, 3) := by decide +kernel
theorem dX2_clearBuffer_4 : decode cX2_clearBuffer 4 = .ok (.istore_n 1, 1) := by decide +kernel
theorem dX2_clearBuffer_5 : decode cX2_clearBuffer 5 = .ok (.aload_n 0, 1) := by decide +kernel
theorem dX2_clearBuffer_6 : decode cX2_clearBuffer 6 = .ok (.iconst 0, 1) := by decide +kernel
theorem dX2_clearBuffer_7 : decode cX2_clearBuffer 7 = .ok (.putfield 31, 3) := by decide +kernel
theorem dX2_clearBuffer_10 : decode cX2_clearBuffer 10 = .ok (.iload_n 1, 1) := by decide +kernel
theorem dX2_clearBuffer_11 : decode cX2_clearBuffer 11 = .ok (.ireturn, 1) := by decide +kernel
set_option maxRecDepth 20000 in
theorem ggX2_firstError_X2_readBuffer : GoodIn wsX2_firstError wsX2_readBuffer := goodIn_r _ [5, 6, 7, 8, 9, 10, 11, 12, 13, 14, 15, 16, 17, 18, 19, 20, 21, 22, 23, 24, 25, 26, 27, 28, 29, 30, 31, 32, 33, 34, 35, 36, 37, 38, 39, 40, 41, 42, 43, 44, 45, 46, 47, 48, 49, 50, 51, 52, 53, 54, 55, 56, 57, 58, 59] (by decide +kernel) (by decide +kernel)
set_option maxRecDepth 20000 in
theorem gX2_firstError_X2_readBuffer : GoodIn wsX2_firstError (wsV RX2 119 RX2 yX2_readBuffer wsX2_readBuffer) := goodIn_app (goodIn_of _ (by decide +kernel)) ggX2_firstError_X2_readBuffer
theorem dX2_firstError_0 : decode cX2_firstError 0 = .ok (.aload_n 0, 1) := by decide +kernel
theorem dX2_firstError_1 : decode cX2_firstError 1 = .ok (.invokevirtual 119, 3) := by decide +kernel
theorem dX2_firstError_4 : decode cX2_firstError 4 = .ok (.ireturn, 1) := by decide +kernel
set_option maxRecDepth 20000 in
theorem ggX2_writeAll_X2_readBuffer : GoodIn wsX2_writeAll wsX2_readBuffer := goodIn_r _ [14, 4, 3, 5, 15, 16, 17, 18, 19, 20, 21, 22, 23, 24, 25, 26, 27, 28, 29, 30, 31, 32, 33, 34, 35, 36, 37, 38, 39, 40, 41, 42, 43, 44, 45, 46, 47, 48, 49, 50, 51, 52, 53, 54, 144, 145, 146, 147, 148, 149, 150, 151, 152, 153, 154] (by decide +kernel) (by decide +kernel)
set_option maxRecDepth 20000 in
theorem gX2_writeAll_X2_readBuffer : GoodIn wsX2_writeAll (wsV RX2 119 RX2 yX2_readBuffer wsX2_readBuffer) := goodIn_app (goodIn_of _ (by decide +kernel)) ggX2_writeAll_X2_readBuffer
set_option maxRecDepth 20000 in
theorem ggX2_writeAll_X0_isPartWhole : GoodIn wsX2_writeAll wsX0_isPartWhole := goodIn_r _ [54, 20, 30, 25, 151, 152, 153, 154] (by decide +kernel) (by decide +kernel)
set_option maxRecDepth 20000 in
theorem gX2_writeAll_X0_isPartWhole : GoodIn wsX2_writeAll (wsV RX2 122 RX0 yX0_isPartWhole wsX0_isPartWhole) := goodIn_app (goodIn_of _ (by decide +kernel)) ggX2_writeAll_X0_isPartWhole
set_option maxRecDepth 20000 in
theorem ggX2_writeAll_X2_saveState : GoodIn wsX2_writeAll wsX2_saveState := goodIn_r _ [59, 60, 61, 6, 62, 63, 64, 13, 65, 66, 67, 68, 69, 70, 71, 72, 73, 74, 75, 76, 77, 78, 79, 80, 81, 82, 83, 84, 85, 86, 87, 88, 89, 90, 91, 92, 93, 94, 95, 96, 97, 98, 144, 145, 146, 147, 148, 149, 150, 155, 156, 157, 158, 159, 160, 161, 162, 163, 164, 165, 166, 167, 168, 169, 170, 171] (by decide +kernel) (by decide +kernel)
set_option maxRecDepth 20000 in
theorem gX2_writeAll_X2_saveState : GoodIn wsX2_writeAll (wsV RX2 57 RX2 yX2_saveState wsX2_saveState) := goodIn_app (goodIn_of _ (by decide +kernel)) ggX2_writeAll_X2_saveState
set_option maxRecDepth 20000 in
theorem ggX2_writeAll_X0_restart : GoodIn wsX2_writeAll wsX0_restart := goodIn_r _ [19, 20, 151, 152, 153, 154] (by decide +kernel) (by decide +kernel)
set_option maxRecDepth 20000 in
theorem gX2_writeAll_X0_restart : GoodIn wsX2_writeAll (wsV RX2 128 RX0 yX0_restart wsX0_restart) := goodIn_app (goodIn_of _ (by decide +kernel)) ggX2_writeAll_X0_restart
set_option maxRecDepth 20000 in
theorem ggX2_writeAll_X0_accepts : GoodIn wsX2_writeAll wsX0_accepts := goodIn_r _ [24, 20, 25, 26, 27, 28, 18, 29, 30, 31, 32, 33, 34, 35, 36, 37, 38, 39, 40, 41, 42, 43, 44, 45, 46, 47, 48, 49, 50, 51, 52, 53, 54, 151, 152, 153, 154] (by decide +kernel) (by decide +kernel)
set_option maxRecDepth 20000 in
theorem gX2_writeAll_X0_accepts : GoodIn wsX2_writeAll (wsV RX2 131 RX0 yX0_accepts wsX0_accepts) := goodIn_app (goodIn_of _ (by decide +kernel)) ggX2_writeAll_X0_accepts
set_option maxRecDepth 20000 in
theorem ggX2_writeAll_X1_writePages : GoodIn wsX2_writeAll wsX1_writePages := goodIn_r _ [102, 103, 104, 105, 69, 106, 83, 107, 108, 109, 110, 85, 72, 75, 73, 111, 112, 113, 114, 86, 115, 116, 117, 118, 119, 78, 79, 120, 121, 122, 123, 81, 80, 124, 125, 126, 127, 74, 84, 128, 129, 130, 131, 76, 71, 132, 133, 134, 135, 82, 77, 136, 137, 138, 139, 87, 140, 141, 142, 143, 155, 156, 157, 158, 159, 160, 161, 162, 163, 164, 165, 166, 167, 168, 169, 170, 171] (by decide +kernel) (by decide +kernel)
set_option maxRecDepth 20000 in
theorem gX2_writeAll_X1_writePages : GoodIn wsX2_writeAll (wsV RX2 60 RX1 yX1_writePages wsX1_writePages) := goodIn_app (goodIn_of _ (by decide +kernel)) ggX2_writeAll_X1_writePages
theorem dX2_writeAll_0 : decode cX2_writeAll 0 = .ok (.aload_n 0, 1) := by decide +kernel
theorem dX2_writeAll_1 : decode cX2_writeAll 1 = .ok (.invokevirtual 119, 3) := by decide +kernel
theorem dX2_writeAll_4 : decode cX2_writeAll 4 = .ok (.aload_n 0, 1) := by decide +kernel
theorem dX2_writeAll_5 : decode cX2_writeAll 5 = .ok (.getfield 31, 3) := by decide +kernel
theorem dX2_writeAll_8 : decode cX2_writeAll 8 = .ok (.if_icmp .lt 13, 3) := by decide +kernel
theorem dX2_writeAll_11 : decode cX2_writeAll 11 = .ok (.aload_n 0, 1) := by decide +kernel
theorem dX2_writeAll_12 : decode cX2_writeAll 12 = .ok (.getfield 37, 3) := by decide +kernel
theorem dX2_writeAll_15 : decode cX2_writeAll 15 = .ok (.invokevirtual 122, 3) := by decide +kernel
theorem dX2_writeAll_18 : decode cX2_writeAll 18 = .ok (.ifCond .ne 13, 3) := by decide +kernel
theorem dX2_writeAll_21 : decode cX2_writeAll 21 = .ok (.new 52, 3) := by decide +kernel
theorem dX2_writeAll_24 : decode cX2_writeAll 24 = .ok (.dup, 1) := by decide +kernel
theorem dX2_writeAll_25 : decode cX2_writeAll 25 = .ok (.ldc 126, 2) := by decide +kernel
theorem dX2_writeAll_27 : decode cX2_writeAll 27 = .ok (.invokespecial 56, 3) := by decide +kernel
theorem dX2_writeAll_30 : decode cX2_writeAll 30 = .ok (.athrow, 1) := by decide +kernel
theorem dX2_writeAll_31 : decode cX2_writeAll 31 = .ok (.aload_n 0, 1) := by decide +kernel
theorem dX2_writeAll_32 : decode cX2_writeAll 32 = .ok (.invokevirtual 57, 3) := by decide +kernel
theorem dX2_writeAll_35 : decode cX2_writeAll 35 = .ok (.iconst 0, 1) := by decide +kernel
theorem dX2_writeAll_36 : decode cX2_writeAll 36 = .ok (.istore_n 1, 1) := by decide +kernel
theorem dX2_writeAll_37 : decode cX2_writeAll 37 = .ok (.aload_n 0, 1) := by decide +kernel
theorem dX2_writeAll_38 : decode cX2_writeAll 38 = .ok (.getfield 37, 3) := by decide +kernel
theorem dX2_writeAll_41 : decode cX2_writeAll 41 = .ok (.invokevirtual 128, 3) := by decide +kernel
theorem dX2_writeAll_44 : decode cX2_writeAll 44 = .ok (.iconst 0, 1) := by decide +kernel
theorem dX2_writeAll_45 : decode cX2_writeAll 45 = .ok (.istore_n 2, 1) := by decide +kernel
theorem dX2_writeAll_46 : decode cX2_writeAll 46 = .ok (.iload_n 2, 1) := by decide +kernel
theorem dX2_writeAll_47 : decode cX2_writeAll 47 = .ok (.aload_n 0, 1) := by decide +kernel
theorem dX2_writeAll_48 : decode cX2_writeAll 48 = .ok (.getfield 31, 3) := by decide +kernel
theorem dX2_writeAll_51 : decode cX2_writeAll 51 = .ok (.if_icmp .ge 93, 3) := by decide +kernel
theorem dX2_writeAll_54 : decode cX2_writeAll 54 = .ok (.aload_n 0, 1) := by decide +kernel
theorem dX2_writeAll_55 : decode cX2_writeAll 55 = .ok (.getfield 37, 3) := by decide +kernel
theorem dX2_writeAll_58 : decode cX2_writeAll 58 = .ok (.aload_n 0, 1) := by decide +kernel
theorem dX2_writeAll_59 : decode cX2_writeAll 59 = .ok (.getfield 27, 3) := by decide +kernel
theorem dX2_writeAll_62 : decode cX2_writeAll 62 = .ok (.iload_n 2, 1) := by decide +kernel
theorem dX2_writeAll_63 : decode cX2_writeAll 63 = .ok (.iaload, 1) := by decide +kernel
theorem dX2_writeAll_64 : decode cX2_writeAll 64 = .ok (.invokevirtual 131, 3) := by decide +kernel
theorem dX2_writeAll_67 : decode cX2_writeAll 67 = .ok (.pop, 1) := by decide +kernel
theorem dX2_writeAll_68 : decode cX2_writeAll 68 = .ok (.iload_n 2, 1) := by decide +kernel
theorem dX2_writeAll_69 : decode cX2_writeAll 69 = .ok (.iconst 1, 1) := by decide +kernel
theorem dX2_writeAll_70 : decode cX2_writeAll 70 = .ok (.iadd, 1) := by decide +kernel
theorem dX2_writeAll_71 : decode cX2_writeAll 71 = .ok (.aload_n 0, 1) := by decide +kernel
theorem dX2_writeAll_72 : decode cX2_writeAll 72 = .ok (.getfield 31, 3) := by decide +kernel
theorem dX2_writeAll_75 : decode cX2_writeAll 75 = .ok (.if_icmp .eq 14, 3) := by decide +kernel
theorem dX2_writeAll_78 : decode cX2_writeAll 78 = .ok (.aload_n 0, 1) := by decide +kernel
theorem dX2_writeAll_79 : decode cX2_writeAll 79 = .ok (.getfield 27, 3) := by decide +kernel
theorem dX2_writeAll_82 : decode cX2_writeAll 82 = .ok (.iload_n 2, 1) := by decide +kernel
theorem dX2_writeAll_83 : decode cX2_writeAll 83 = .ok (.iaload, 1) := by decide +kernel
theorem dX2_writeAll_84 : decode cX2_writeAll 84 = .ok (.bipush 59, 2) := by decide +kernel
theorem dX2_writeAll_86 : decode cX2_writeAll 86 = .ok (.if_icmp .ne 52, 3) := by decide +kernel
theorem dX2_writeAll_89 : decode cX2_writeAll 89 = .ok (.aload_n 0, 1) := by decide +kernel
theorem dX2_writeAll_90 : decode cX2_writeAll 90 = .ok (.getfield 10, 3) := by decide +kernel
theorem dX2_writeAll_93 : decode cX2_writeAll 93 = .ok (.aload_n 0, 1) := by decide +kernel
theorem dX2_writeAll_94 : decode cX2_writeAll 94 = .ok (.getfield 37, 3) := by decide +kernel
theorem dX2_writeAll_97 : decode cX2_writeAll 97 = .ok (.getfield 134, 3) := by decide +kernel
theorem dX2_writeAll_100 : decode cX2_writeAll 100 = .ok (.aload_n 0, 1) := by decide +kernel
theorem dX2_writeAll_101 : decode cX2_writeAll 101 = .ok (.getfield 37, 3) := by decide +kernel
theorem dX2_writeAll_104 : decode cX2_writeAll 104 = .ok (.getfield 137, 3) := by decide +kernel
theorem dX2_writeAll_107 : decode cX2_writeAll 107 = .ok (.aload_n 0, 1) := by decide +kernel
theorem dX2_writeAll_108 : decode cX2_writeAll 108 = .ok (.getfield 37, 3) := by decide +kernel
theorem dX2_writeAll_111 : decode cX2_writeAll 111 = .ok (.getfield 140, 3) := by decide +kernel
theorem dX2_writeAll_114 : decode cX2_writeAll 114 = .ok (.invokevirtual 60, 3) := by decide +kernel
theorem dX2_writeAll_117 : decode cX2_writeAll 117 = .ok (.pop, 1) := by decide +kernel
theorem dX2_writeAll_118 : decode cX2_writeAll 118 = .ok (.iload_n 1, 1) := by decide +kernel
theorem dX2_writeAll_119 : decode cX2_writeAll 119 = .ok (.aload_n 0, 1) := by decide +kernel
theorem dX2_writeAll_120 : decode cX2_writeAll 120 = .ok (.getfield 37, 3) := by decide +kernel
theorem dX2_writeAll_123 : decode cX2_writeAll 123 = .ok (.getfield 137, 3) := by decide +kernel
theorem dX2_writeAll_126 : decode cX2_writeAll 126 = .ok (.aload_n 0, 1) := by decide +kernel
theorem dX2_writeAll_127 : decode cX2_writeAll 127 = .ok (.getfield 37, 3) := by decide +kernel
theorem dX2_writeAll_130 : decode cX2_writeAll 130 = .ok (.getfield 134, 3) := by decide +kernel
theorem dX2_writeAll_133 : decode cX2_writeAll 133 = .ok (.isub, 1) := by decide +kernel
theorem dX2_writeAll_134 : decode cX2_writeAll 134 = .ok (.iconst 1, 1) := by decide +kernel
theorem dX2_writeAll_135 : decode cX2_writeAll 135 = .ok (.iadd, 1) := by decide +kernel
theorem dX2_writeAll_136 : decode cX2_writeAll 136 = .ok (.iadd, 1) := by decide +kernel
theorem dX2_writeAll_137 : decode cX2_writeAll 137 = .ok (.istore_n 1, 1) := by decide +kernel
theorem dX2_writeAll_138 : decode cX2_writeAll 138 = .ok (.iinc 2 1, 3) := by decide +kernel
theorem dX2_writeAll_141 : decode cX2_writeAll 141 = .ok (.goto (-95), 3) := by decide +kernel
theorem dX2_writeAll_144 : decode cX2_writeAll 144 = .ok (.aload_n 0, 1) := by decide +kernel
theorem dX2_writeAll_145 : decode cX2_writeAll 145 = .ok (.iconst 0, 1) := by decide +kernel
theorem dX2_writeAll_146 : decode cX2_writeAll 146 = .ok (.putfield 31, 3) := by decide +kernel
theorem dX2_writeAll_149 : decode cX2_writeAll 149 = .ok (.iload_n 1, 1) := by decide +kernel
theorem dX2_writeAll_150 : decode cX2_writeAll 150 = .ok (.ireturn, 1) := by decide +kernel
theorem dX2_undo_0 : decode cX2_undo 0 = .ok (.aload_n 0, 1) := by decide +kernel
theorem dX2_undo_1 : decode cX2_undo 1 = .ok (.getfield 23, 3) := by decide +kernel
theorem dX2_undo_4 : decode cX2_undo 4 = .ok (.ifCond .gt 13, 3) := by decide +kernel
theorem dX2_undo_7 : decode cX2_undo 7 = .ok (.new 78, 3) := by decide +kernel
theorem dX2_undo_10 : decode cX2_undo 10 = .ok (.dup, 1) := by decide +kernel
theorem dX2_undo_11 : decode cX2_undo 11 = .ok (.ldc 143, 2) := by decide +kernel
theorem dX2_undo_13 : decode cX2_undo 13 = .ok (.invokespecial 82, 3) := by decide +kernel
theorem dX2_undo_16 : decode cX2_undo 16 = .ok (.athrow, 1) := by decide +kernel
theorem dX2_undo_17 : decode cX2_undo 17 = .ok (.aload_n 0, 1) := by decide +kernel
theorem dX2_undo_18 : decode cX2_undo 18 = .ok (.dup, 1) := by decide +kernel
theorem dX2_undo_19 : decode cX2_undo 19 = .ok (.getfield 23, 3) := by decide +kernel
theorem dX2_undo_22 : decode cX2_undo 22 = .ok (.iconst 1, 1) := by decide +kernel
theorem dX2_undo_23 : decode cX2_undo 23 = .ok (.isub, 1) := by decide +kernel
theorem dX2_undo_24 : decode cX2_undo 24 = .ok (.putfield 23, 3) := by decide +kernel
theorem dX2_undo_27 : decode cX2_undo 27 = .ok (.aload_n 0, 1) := by decide +kernel
theorem dX2_undo_28 : decode cX2_undo 28 = .ok (.getfield 10, 3) := by decide +kernel
theorem dX2_undo_31 : decode cX2_undo 31 = .ok (.astore_n 1, 1) := by decide +kernel
theorem dX2_undo_32 : decode cX2_undo 32 = .ok (.aload_n 0, 1) := by decide +kernel
theorem dX2_undo_33 : decode cX2_undo 33 = .ok (.aload_n 0, 1) := by decide +kernel
theorem dX2_undo_34 : decode cX2_undo 34 = .ok (.getfield 19, 3) := by decide +kernel
theorem dX2_undo_37 : decode cX2_undo 37 = .ok (.aload_n 0, 1) := by decide +kernel
theorem dX2_undo_38 : decode cX2_undo 38 = .ok (.getfield 23, 3) := by decide +kernel
theorem dX2_undo_41 : decode cX2_undo 41 = .ok (.aaload, 1) := by decide +kernel
theorem dX2_undo_42 : decode cX2_undo 42 = .ok (.putfield 10, 3) := by decide +kernel
theorem dX2_undo_45 : decode cX2_undo 45 = .ok (.aload_n 0, 1) := by decide +kernel
theorem dX2_undo_46 : decode cX2_undo 46 = .ok (.getfield 19, 3) := by decide +kernel
theorem dX2_undo_49 : decode cX2_undo 49 = .ok (.aload_n 0, 1) := by decide +kernel
theorem dX2_undo_50 : decode cX2_undo 50 = .ok (.getfield 23, 3) := by decide +kernel
theorem dX2_undo_53 : decode cX2_undo 53 = .ok (.aload_n 1, 1) := by decide +kernel
theorem dX2_undo_54 : decode cX2_undo 54 = .ok (.aastore, 1) := by decide +kernel
theorem dX2_undo_55 : decode cX2_undo 55 = .ok (.aload_n 0, 1) := by decide +kernel
theorem dX2_undo_56 : decode cX2_undo 56 = .ok (.getfield 23, 3) := by decide +kernel
theorem dX2_undo_59 : decode cX2_undo 59 = .ok (.ireturn, 1) := by decide +kernel
set_option maxRecDepth 20000 in
theorem ggX2_page_X2_isIn : GoodIn wsX2_page wsX2_isIn := goodIn_r _ [9] (by decide +kernel) (by decide +kernel)
set_option maxRecDepth 20000 in
theorem gX2_page_X2_isIn : GoodIn wsX2_page (va_wsS RX2 41 yX2_isIn wsX2_isIn) := goodIn_app (goodIn_of _ (by decide +kernel)) ggX2_page_X2_isIn
set_option maxRecDepth 20000 in
theorem ggX2_page_X1_pageProperty : GoodIn wsX2_page wsX1_pageProperty := goodIn_r _ [14, 15, 16, 17, 18, 19, 20, 21, 22, 13, 23, 24, 25, 26, 27, 35, 36, 37, 38, 39, 40, 41, 42, 43, 44, 45, 46, 47, 48, 49, 50, 51] (by decide +kernel) (by decide +kernel)
set_option maxRecDepth 20000 in
theorem gX2_page_X1_pageProperty : GoodIn wsX2_page (wsV RX2 147 RX1 yX1_pageProperty wsX1_pageProperty) := goodIn_app (goodIn_of _ (by decide +kernel)) ggX2_page_X1_pageProperty
theorem dX2_page_0 : decode cX2_page 0 = .ok (.iload_n 1, 1) := by decide +kernel
theorem dX2_page_1 : decode cX2_page 1 = .ok (.bipush 40, 2) := by decide +kernel
theorem dX2_page_3 : decode cX2_page 3 = .ok (.invokestatic 41, 3) := by decide +kernel
theorem dX2_page_6 : decode cX2_page 6 = .ok (.ifCond .ne 13, 3) := by decide +kernel
theorem dX2_page_9 : decode cX2_page 9 = .ok (.new 45, 3) := by decide +kernel
theorem dX2_page_12 : decode cX2_page 12 = .ok (.dup, 1) := by decide +kernel
theorem dX2_page_13 : decode cX2_page 13 = .ok (.ldc 47, 2) := by decide +kernel
theorem dX2_page_15 : decode cX2_page 15 = .ok (.invokespecial 49, 3) := by decide +kernel
theorem dX2_page_18 : decode cX2_page 18 = .ok (.athrow, 1) := by decide +kernel
theorem dX2_page_19 : decode cX2_page 19 = .ok (.iload_n 2, 1) := by decide +kernel
theorem dX2_page_20 : decode cX2_page 20 = .ok (.bipush 6, 2) := by decide +kernel
theorem dX2_page_22 : decode cX2_page 22 = .ok (.invokestatic 41, 3) := by decide +kernel
theorem dX2_page_25 : decode cX2_page 25 = .ok (.ifCond .ne 13, 3) := by decide +kernel
theorem dX2_page_28 : decode cX2_page 28 = .ok (.new 52, 3) := by decide +kernel
theorem dX2_page_31 : decode cX2_page 31 = .ok (.dup, 1) := by decide +kernel
theorem dX2_page_32 : decode cX2_page 32 = .ok (.ldc 145, 2) := by decide +kernel
theorem dX2_page_34 : decode cX2_page 34 = .ok (.invokespecial 56, 3) := by decide +kernel
theorem dX2_page_37 : decode cX2_page 37 = .ok (.athrow, 1) := by decide +kernel
theorem dX2_page_38 : decode cX2_page 38 = .ok (.aload_n 0, 1) := by decide +kernel
theorem dX2_page_39 : decode cX2_page 39 = .ok (.getfield 10, 3) := by decide +kernel
theorem dX2_page_42 : decode cX2_page 42 = .ok (.iload_n 1, 1) := by decide +kernel
theorem dX2_page_43 : decode cX2_page 43 = .ok (.iload_n 2, 1) := by decide +kernel
theorem dX2_page_44 : decode cX2_page 44 = .ok (.invokevirtual 147, 3) := by decide +kernel
theorem dX2_page_47 : decode cX2_page 47 = .ok (.ireturn, 1) := by decide +kernel
set_option maxRecDepth 20000 in
theorem ggX2_block_X2_isIn : GoodIn wsX2_block wsX2_isIn := goodIn_r _ [9] (by decide +kernel) (by decide +kernel)
set_option maxRecDepth 20000 in
theorem gX2_block_X2_isIn : GoodIn wsX2_block (va_wsS RX2 41 yX2_isIn wsX2_isIn) := goodIn_app (goodIn_of _ (by decide +kernel)) ggX2_block_X2_isIn
set_option maxRecDepth 20000 in
theorem ggX2_block_X1_blockProperty : GoodIn wsX2_block wsX1_blockProperty := goodIn_r _ [14, 15, 16, 17, 18, 19, 20, 21, 13, 22, 23, 24, 25, 26, 27, 28, 29, 30, 31, 32, 33, 34, 35, 36, 37, 38, 39, 40, 41, 42, 43, 44, 45, 53, 54, 55, 56, 57, 58, 59, 60, 61, 62, 63, 64, 65, 66, 67, 68, 69] (by decide +kernel) (by decide +kernel)
set_option maxRecDepth 20000 in
theorem gX2_block_X1_blockProperty : GoodIn wsX2_block (wsV RX2 151 RX1 yX1_blockProperty wsX1_blockProperty) := goodIn_app (goodIn_of _ (by decide +kernel)) ggX2_block_X1_blockProperty
theorem dX2_block_0 : decode cX2_block 0 = .ok (.iload_n 1, 1) := by decide +kernel
theorem dX2_block_1 : decode cX2_block 1 = .ok (.bipush 12, 2) := by decide +kernel
theorem dX2_block_3 : decode cX2_block 3 = .ok (.invokestatic 41, 3) := by decide +kernel
theorem dX2_block_6 : decode cX2_block 6 = .ok (.ifCond .ne 13, 3) := by decide +kernel
theorem dX2_block_9 : decode cX2_block 9 = .ok (.new 45, 3) := by decide +kernel
theorem dX2_block_12 : decode cX2_block 12 = .ok (.dup, 1) := by decide +kernel
theorem dX2_block_13 : decode cX2_block 13 = .ok (.ldc 86, 2) := by decide +kernel
theorem dX2_block_15 : decode cX2_block 15 = .ok (.invokespecial 49, 3) := by decide +kernel
theorem dX2_block_18 : decode cX2_block 18 = .ok (.athrow, 1) := by decide +kernel
theorem dX2_block_19 : decode cX2_block 19 = .ok (.iload_n 2, 1) := by decide +kernel
theorem dX2_block_20 : decode cX2_block 20 = .ok (.bipush 8, 2) := by decide +kernel
theorem dX2_block_22 : decode cX2_block 22 = .ok (.invokestatic 41, 3) := by decide +kernel
theorem dX2_block_25 : decode cX2_block 25 = .ok (.ifCond .ne 13, 3) := by decide +kernel
theorem dX2_block_28 : decode cX2_block 28 = .ok (.new 52, 3) := by decide +kernel
theorem dX2_block_31 : decode cX2_block 31 = .ok (.dup, 1) := by decide +kernel
theorem dX2_block_32 : decode cX2_block 32 = .ok (.ldc 145, 2) := by decide +kernel
theorem dX2_block_34 : decode cX2_block 34 = .ok (.invokespecial 56, 3) := by decide +kernel
theorem dX2_block_37 : decode cX2_block 37 = .ok (.athrow, 1) := by decide +kernel
theorem dX2_block_38 : decode cX2_block 38 = .ok (.aload_n 0, 1) := by decide +kernel
theorem dX2_block_39 : decode cX2_block 39 = .ok (.getfield 10, 3) := by decide +kernel
theorem dX2_block_42 : decode cX2_block 42 = .ok (.iload_n 1, 1) := by decide +kernel
theorem dX2_block_43 : decode cX2_block 43 = .ok (.iload_n 2, 1) := by decide +kernel
theorem dX2_block_44 : decode cX2_block 44 = .ok (.invokevirtual 151, 3) := by decide +kernel
theorem dX2_block_47 : decode cX2_block 47 = .ok (.ireturn, 1) := by decide +kernel
set_option maxRecDepth 20000 in
theorem ggX2_slot_X2_isIn : GoodIn wsX2_slot wsX2_isIn := goodIn_r _ [8] (by decide +kernel) (by decide +kernel)
set_option maxRecDepth 20000 in
theorem gX2_slot_X2_isIn : GoodIn wsX2_slot (va_wsS RX2 41 yX2_isIn wsX2_isIn) := goodIn_app (goodIn_of _ (by decide +kernel)) ggX2_slot_X2_isIn
set_option maxRecDepth 20000 in
theorem ggX2_slot_X1_validPageAt : GoodIn wsX2_slot wsX1_validPageAt := goodIn_r _ [13, 14, 15, 23, 24, 25, 26, 27, 28, 29, 30, 31, 32, 33, 34, 35, 36, 37, 38, 39] (by decide +kernel) (by decide +kernel)
set_option maxRecDepth 20000 in
theorem gX2_slot_X1_validPageAt : GoodIn wsX2_slot (wsV RX2 156 RX1 yX1_validPageAt wsX1_validPageAt) := goodIn_app (goodIn_of _ (by decide +kernel)) ggX2_slot_X1_validPageAt
theorem dX2_slot_0 : decode cX2_slot 0 = .ok (.iload_n 1, 1) := by decide +kernel
theorem dX2_slot_1 : decode cX2_slot 1 = .ok (.bipush 12, 2) := by decide +kernel
theorem dX2_slot_3 : decode cX2_slot 3 = .ok (.invokestatic 41, 3) := by decide +kernel
theorem dX2_slot_6 : decode cX2_slot 6 = .ok (.ifCond .eq 12, 3) := by decide +kernel
theorem dX2_slot_9 : decode cX2_slot 9 = .ok (.iload_n 2, 1) := by decide +kernel
theorem dX2_slot_10 : decode cX2_slot 10 = .ok (.bipush 8, 2) := by decide +kernel
theorem dX2_slot_12 : decode cX2_slot 12 = .ok (.invokestatic 41, 3) := by decide +kernel
theorem dX2_slot_15 : decode cX2_slot 15 = .ok (.ifCond .ne 13, 3) := by decide +kernel
theorem dX2_slot_18 : decode cX2_slot 18 = .ok (.new 45, 3) := by decide +kernel
theorem dX2_slot_21 : decode cX2_slot 21 = .ok (.dup, 1) := by decide +kernel
theorem dX2_slot_22 : decode cX2_slot 22 = .ok (.ldc 154, 2) := by decide +kernel
theorem dX2_slot_24 : decode cX2_slot 24 = .ok (.invokespecial 49, 3) := by decide +kernel
theorem dX2_slot_27 : decode cX2_slot 27 = .ok (.athrow, 1) := by decide +kernel
theorem dX2_slot_28 : decode cX2_slot 28 = .ok (.iload_n 1, 1) := by decide +kernel
theorem dX2_slot_29 : decode cX2_slot 29 = .ok (.bipush 8, 2) := by decide +kernel
theorem dX2_slot_31 : decode cX2_slot 31 = .ok (.imul, 1) := by decide +kernel
theorem dX2_slot_32 : decode cX2_slot 32 = .ok (.iload_n 2, 1) := by decide +kernel
theorem dX2_slot_33 : decode cX2_slot 33 = .ok (.iadd, 1) := by decide +kernel
theorem dX2_slot_34 : decode cX2_slot 34 = .ok (.istore 4, 2) := by decide +kernel
theorem dX2_slot_36 : decode cX2_slot 36 = .ok (.iload_n 3, 1) := by decide +kernel
theorem dX2_slot_37 : decode cX2_slot 37 = .ok (.ifCond .eq 15, 3) := by decide +kernel
theorem dX2_slot_40 : decode cX2_slot 40 = .ok (.aload_n 0, 1) := by decide +kernel
theorem dX2_slot_41 : decode cX2_slot 41 = .ok (.getfield 10, 3) := by decide +kernel
theorem dX2_slot_44 : decode cX2_slot 44 = .ok (.iload 4, 2) := by decide +kernel
theorem dX2_slot_46 : decode cX2_slot 46 = .ok (.invokevirtual 156, 3) := by decide +kernel
theorem dX2_slot_49 : decode cX2_slot 49 = .ok (.goto 13, 3) := by decide +kernel
theorem dX2_slot_52 : decode cX2_slot 52 = .ok (.aload_n 0, 1) := by decide +kernel
theorem dX2_slot_53 : decode cX2_slot 53 = .ok (.getfield 10, 3) := by decide +kernel
theorem dX2_slot_56 : decode cX2_slot 56 = .ok (.getfield 159, 3) := by decide +kernel
theorem dX2_slot_59 : decode cX2_slot 59 = .ok (.iload 4, 2) := by decide +kernel
theorem dX2_slot_61 : decode cX2_slot 61 = .ok (.iaload, 1) := by decide +kernel
theorem dX2_slot_62 : decode cX2_slot 62 = .ok (.ireturn, 1) := by decide +kernel
set_option maxRecDepth 20000 in
theorem ggX2_stream_X2_isIn : GoodIn wsX2_stream wsX2_isIn := goodIn_r _ [9] (by decide +kernel) (by decide +kernel)
set_option maxRecDepth 20000 in
theorem gX2_stream_X2_isIn : GoodIn wsX2_stream (va_wsS RX2 41 yX2_isIn wsX2_isIn) := goodIn_app (goodIn_of _ (by decide +kernel)) ggX2_stream_X2_isIn
set_option maxRecDepth 20000 in
theorem ggX2_stream_X1_streamProperty : GoodIn wsX2_stream wsX1_streamProperty := goodIn_r _ [14, 15, 16, 17, 18, 19, 20, 13, 21, 22, 23, 24, 25, 26, 27, 28, 29, 30, 31, 39, 40, 41, 42, 43, 44, 45, 46, 47, 48, 49, 50, 51, 52, 53, 54, 55] (by decide +kernel) (by decide +kernel)
set_option maxRecDepth 20000 in
theorem gX2_stream_X1_streamProperty : GoodIn wsX2_stream (wsV RX2 164 RX1 yX1_streamProperty wsX1_streamProperty) := goodIn_app (goodIn_of _ (by decide +kernel)) ggX2_stream_X1_streamProperty
theorem dX2_stream_0 : decode cX2_stream 0 = .ok (.iload_n 1, 1) := by decide +kernel
theorem dX2_stream_1 : decode cX2_stream 1 = .ok (.iconst 5, 1) := by decide +kernel
theorem dX2_stream_2 : decode cX2_stream 2 = .ok (.invokestatic 41, 3) := by decide +kernel
theorem dX2_stream_5 : decode cX2_stream 5 = .ok (.ifCond .ne 13, 3) := by decide +kernel
theorem dX2_stream_8 : decode cX2_stream 8 = .ok (.new 45, 3) := by decide +kernel
theorem dX2_stream_11 : decode cX2_stream 11 = .ok (.dup, 1) := by decide +kernel
theorem dX2_stream_12 : decode cX2_stream 12 = .ok (.ldc 162, 2) := by decide +kernel
theorem dX2_stream_14 : decode cX2_stream 14 = .ok (.invokespecial 49, 3) := by decide +kernel
theorem dX2_stream_17 : decode cX2_stream 17 = .ok (.athrow, 1) := by decide +kernel
theorem dX2_stream_18 : decode cX2_stream 18 = .ok (.iload_n 2, 1) := by decide +kernel
theorem dX2_stream_19 : decode cX2_stream 19 = .ok (.iconst 5, 1) := by decide +kernel
theorem dX2_stream_20 : decode cX2_stream 20 = .ok (.invokestatic 41, 3) := by decide +kernel
theorem dX2_stream_23 : decode cX2_stream 23 = .ok (.ifCond .ne 13, 3) := by decide +kernel
theorem dX2_stream_26 : decode cX2_stream 26 = .ok (.new 52, 3) := by decide +kernel
theorem dX2_stream_29 : decode cX2_stream 29 = .ok (.dup, 1) := by decide +kernel
theorem dX2_stream_30 : decode cX2_stream 30 = .ok (.ldc 145, 2) := by decide +kernel
theorem dX2_stream_32 : decode cX2_stream 32 = .ok (.invokespecial 56, 3) := by decide +kernel
theorem dX2_stream_35 : decode cX2_stream 35 = .ok (.athrow, 1) := by decide +kernel
theorem dX2_stream_36 : decode cX2_stream 36 = .ok (.aload_n 0, 1) := by decide +kernel
theorem dX2_stream_37 : decode cX2_stream 37 = .ok (.getfield 10, 3) := by decide +kernel
theorem dX2_stream_40 : decode cX2_stream 40 = .ok (.iload_n 1, 1) := by decide +kernel
theorem dX2_stream_41 : decode cX2_stream 41 = .ok (.iload_n 2, 1) := by decide +kernel
theorem dX2_stream_42 : decode cX2_stream 42 = .ok (.invokevirtual 164, 3) := by decide +kernel
theorem dX2_stream_45 : decode cX2_stream 45 = .ok (.ireturn, 1) := by decide +kernel
set_option maxRecDepth 20000 in
theorem ggX2_count_X2_isIn : GoodIn wsX2_count wsX2_isIn := goodIn_r _ [8] (by decide +kernel) (by decide +kernel)
set_option maxRecDepth 20000 in
theorem gX2_count_X2_isIn : GoodIn wsX2_count (va_wsS RX2 41 yX2_isIn wsX2_isIn) := goodIn_app (goodIn_of _ (by decide +kernel)) ggX2_count_X2_isIn
set_option maxRecDepth 20000 in
theorem ggX2_count_X1_total : GoodIn wsX2_count wsX1_total := goodIn_r _ [13, 14, 15, 16, 17, 18, 12, 19, 20, 21, 22, 23, 24, 25, 26, 27, 28, 29, 30, 31, 32, 33, 34, 35, 36, 37, 38, 39, 40, 41, 42, 43, 44, 45, 46, 47, 48, 49, 50, 51, 52, 53, 54, 55, 56, 57, 58, 59, 60, 68, 69, 70, 71, 72, 73, 74, 75, 76, 77, 78, 79, 80, 81, 82, 83, 84] (by decide +kernel) (by decide +kernel)
set_option maxRecDepth 20000 in
theorem gX2_count_X1_total : GoodIn wsX2_count (wsV RX2 167 RX1 yX1_total wsX1_total) := goodIn_app (goodIn_of _ (by decide +kernel)) ggX2_count_X1_total
theorem dX2_count_0 : decode cX2_count 0 = .ok (.iload_n 1, 1) := by decide +kernel
theorem dX2_count_1 : decode cX2_count 1 = .ok (.bipush 12, 2) := by decide +kernel
theorem dX2_count_3 : decode cX2_count 3 = .ok (.invokestatic 41, 3) := by decide +kernel
theorem dX2_count_6 : decode cX2_count 6 = .ok (.ifCond .ne 13, 3) := by decide +kernel
theorem dX2_count_9 : decode cX2_count 9 = .ok (.new 52, 3) := by decide +kernel
theorem dX2_count_12 : decode cX2_count 12 = .ok (.dup, 1) := by decide +kernel
theorem dX2_count_13 : decode cX2_count 13 = .ok (.ldc 145, 2) := by decide +kernel
theorem dX2_count_15 : decode cX2_count 15 = .ok (.invokespecial 56, 3) := by decide +kernel
theorem dX2_count_18 : decode cX2_count 18 = .ok (.athrow, 1) := by decide +kernel
theorem dX2_count_19 : decode cX2_count 19 = .ok (.iload_n 1, 1) := by decide +kernel
theorem dX2_count_20 : decode cX2_count 20 = .ok (.bipush 11, 2) := by decide +kernel
theorem dX2_count_22 : decode cX2_count 22 = .ok (.if_icmp .ne 10, 3) := by decide +kernel
theorem dX2_count_25 : decode cX2_count 25 = .ok (.aload_n 0, 1) := by decide +kernel
theorem dX2_count_26 : decode cX2_count 26 = .ok (.getfield 23, 3) := by decide +kernel
theorem dX2_count_29 : decode cX2_count 29 = .ok (.goto 11, 3) := by decide +kernel
theorem dX2_count_32 : decode cX2_count 32 = .ok (.aload_n 0, 1) := by decide +kernel
theorem dX2_count_33 : decode cX2_count 33 = .ok (.getfield 10, 3) := by decide +kernel
theorem dX2_count_36 : decode cX2_count 36 = .ok (.iload_n 1, 1) := by decide +kernel
theorem dX2_count_37 : decode cX2_count 37 = .ok (.invokevirtual 167, 3) := by decide +kernel
theorem dX2_count_40 : decode cX2_count 40 = .ok (.ireturn, 1) := by decide +kernel
set_option maxRecDepth 20000 in
theorem ggX2_setting_X2_isIn : GoodIn wsX2_setting wsX2_isIn := goodIn_r _ [8] (by decide +kernel) (by decide +kernel)
set_option maxRecDepth 20000 in
theorem gX2_setting_X2_isIn : GoodIn wsX2_setting (va_wsS RX2 41 yX2_isIn wsX2_isIn) := goodIn_app (goodIn_of _ (by decide +kernel)) ggX2_setting_X2_isIn
theorem dX2_setting_0 : decode cX2_setting 0 = .ok (.iload_n 1, 1) := by decide +kernel
theorem dX2_setting_1 : decode cX2_setting 1 = .ok (.iconst 2, 1) := by decide +kernel
theorem dX2_setting_2 : decode cX2_setting 2 = .ok (.invokestatic 41, 3) := by decide +kernel
theorem dX2_setting_5 : decode cX2_setting 5 = .ok (.ifCond .ne 13, 3) := by decide +kernel
theorem dX2_setting_8 : decode cX2_setting 8 = .ok (.new 45, 3) := by decide +kernel
theorem dX2_setting_11 : decode cX2_setting 11 = .ok (.dup, 1) := by decide +kernel
theorem dX2_setting_12 : decode cX2_setting 12 = .ok (.ldc 105, 2) := by decide +kernel
theorem dX2_setting_14 : decode cX2_setting 14 = .ok (.invokespecial 49, 3) := by decide +kernel
theorem dX2_setting_17 : decode cX2_setting 17 = .ok (.athrow, 1) := by decide +kernel
theorem dX2_setting_18 : decode cX2_setting 18 = .ok (.aload_n 0, 1) := by decide +kernel
theorem dX2_setting_19 : decode cX2_setting 19 = .ok (.getfield 10, 3) := by decide +kernel
theorem dX2_setting_22 : decode cX2_setting 22 = .ok (.getfield 112, 3) := by decide +kernel
theorem dX2_setting_25 : decode cX2_setting 25 = .ok (.iload_n 1, 1) := by decide +kernel
theorem dX2_setting_26 : decode cX2_setting 26 = .ok (.iaload, 1) := by decide +kernel
theorem dX2_setting_27 : decode cX2_setting 27 = .ok (.ireturn, 1) := by decide +kernel
set_option maxRecDepth 20000 in
theorem ggX2_ifWritten_X2_isIn : GoodIn wsX2_ifWritten wsX2_isIn := goodIn_r _ [8] (by decide +kernel) (by decide +kernel)
set_option maxRecDepth 20000 in
theorem gX2_ifWritten_X2_isIn : GoodIn wsX2_ifWritten (va_wsS RX2 41 yX2_isIn wsX2_isIn) := goodIn_app (goodIn_of _ (by decide +kernel)) ggX2_ifWritten_X2_isIn
set_option maxRecDepth 20000 in
theorem ggX2_ifWritten_X2_tryWriting : GoodIn wsX2_ifWritten wsX2_tryWriting := goodIn_r _ [12, 13, 14, 15, 16, 17, 18, 19, 20, 21, 22, 23, 24, 25, 26, 27, 28, 29, 30, 31, 32, 33, 34, 35, 36, 37, 38, 39, 40, 41, 42, 43, 44, 45, 46, 47, 48, 49, 50, 51, 52, 53, 54, 55, 56, 57, 58, 59, 60, 61, 62, 63, 64, 65, 66, 67, 68, 69, 70, 71, 72, 73, 74, 75, 76, 77, 78, 79, 80, 81, 82, 83, 84, 108, 109, 110, 111, 112, 113, 114, 115, 116, 117, 118, 119, 120, 121, 122, 123, 124, 125, 126, 127, 128, 129, 130, 131] (by decide +kernel) (by decide +kernel)
set_option maxRecDepth 20000 in
theorem gX2_ifWritten_X2_tryWriting : GoodIn wsX2_ifWritten (wsV RX2 170 RX2 yX2_tryWriting wsX2_tryWriting) := goodIn_app (goodIn_of _ (by decide +kernel)) ggX2_ifWritten_X2_tryWriting
set_option maxRecDepth 20000 in
theorem ggX2_ifWritten_X2_forecast : GoodIn wsX2_ifWritten wsX2_forecast := goodIn_r _ [88, 13, 14, 89, 90, 91, 18, 92, 32, 93, 94, 95, 96, 20, 97, 98, 99, 100, 101, 102, 103, 104, 29, 105, 106, 107, 108, 109, 110, 111, 112, 113, 114, 115, 116, 117, 118, 119, 120, 121, 122, 123, 124, 125, 126, 127, 128, 129, 130, 131] (by decide +kernel) (by decide +kernel)
set_option maxRecDepth 20000 in
theorem gX2_ifWritten_X2_forecast : GoodIn wsX2_ifWritten (wsV RX2 174 RX2 yX2_forecast wsX2_forecast) := goodIn_app (goodIn_of _ (by decide +kernel)) ggX2_ifWritten_X2_forecast
theorem dX2_ifWritten_0 : decode cX2_ifWritten 0 = .ok (.iload_n 1, 1) := by decide +kernel
theorem dX2_ifWritten_1 : decode cX2_ifWritten 1 = .ok (.bipush 40, 2) := by decide +kernel
theorem dX2_ifWritten_3 : decode cX2_ifWritten 3 = .ok (.invokestatic 41, 3) := by decide +kernel
theorem dX2_ifWritten_6 : decode cX2_ifWritten 6 = .ok (.ifCond .ne 13, 3) := by decide +kernel
theorem dX2_ifWritten_9 : decode cX2_ifWritten 9 = .ok (.new 45, 3) := by decide +kernel
theorem dX2_ifWritten_12 : decode cX2_ifWritten 12 = .ok (.dup, 1) := by decide +kernel
theorem dX2_ifWritten_13 : decode cX2_ifWritten 13 = .ok (.ldc 47, 2) := by decide +kernel
theorem dX2_ifWritten_15 : decode cX2_ifWritten 15 = .ok (.invokespecial 49, 3) := by decide +kernel
theorem dX2_ifWritten_18 : decode cX2_ifWritten 18 = .ok (.athrow, 1) := by decide +kernel
theorem dX2_ifWritten_19 : decode cX2_ifWritten 19 = .ok (.iload_n 2, 1) := by decide +kernel
theorem dX2_ifWritten_20 : decode cX2_ifWritten 20 = .ok (.iconst 4, 1) := by decide +kernel
theorem dX2_ifWritten_21 : decode cX2_ifWritten 21 = .ok (.invokestatic 41, 3) := by decide +kernel
theorem dX2_ifWritten_24 : decode cX2_ifWritten 24 = .ok (.ifCond .ne 13, 3) := by decide +kernel
theorem dX2_ifWritten_27 : decode cX2_ifWritten 27 = .ok (.new 52, 3) := by decide +kernel
theorem dX2_ifWritten_30 : decode cX2_ifWritten 30 = .ok (.dup, 1) := by decide +kernel
theorem dX2_ifWritten_31 : decode cX2_ifWritten 31 = .ok (.ldc 54, 2) := by decide +kernel
theorem dX2_ifWritten_33 : decode cX2_ifWritten 33 = .ok (.invokespecial 56, 3) := by decide +kernel
theorem dX2_ifWritten_36 : decode cX2_ifWritten 36 = .ok (.athrow, 1) := by decide +kernel
theorem dX2_ifWritten_37 : decode cX2_ifWritten 37 = .ok (.iload_n 3, 1) := by decide +kernel
theorem dX2_ifWritten_38 : decode cX2_ifWritten 38 = .ok (.iconst 3, 1) := by decide +kernel
theorem dX2_ifWritten_39 : decode cX2_ifWritten 39 = .ok (.invokestatic 41, 3) := by decide +kernel
theorem dX2_ifWritten_42 : decode cX2_ifWritten 42 = .ok (.ifCond .ne 13, 3) := by decide +kernel
theorem dX2_ifWritten_45 : decode cX2_ifWritten 45 = .ok (.new 52, 3) := by decide +kernel
theorem dX2_ifWritten_48 : decode cX2_ifWritten 48 = .ok (.dup, 1) := by decide +kernel
theorem dX2_ifWritten_49 : decode cX2_ifWritten 49 = .ok (.ldc 145, 2) := by decide +kernel
theorem dX2_ifWritten_51 : decode cX2_ifWritten 51 = .ok (.invokespecial 56, 3) := by decide +kernel
theorem dX2_ifWritten_54 : decode cX2_ifWritten 54 = .ok (.athrow, 1) := by decide +kernel
theorem dX2_ifWritten_55 : decode cX2_ifWritten 55 = .ok (.aload_n 0, 1) := by decide +kernel
theorem dX2_ifWritten_56 : decode cX2_ifWritten 56 = .ok (.iload_n 1, 1) := by decide +kernel
theorem dX2_ifWritten_57 : decode cX2_ifWritten 57 = .ok (.iload_n 2, 1) := by decide +kernel
theorem dX2_ifWritten_58 : decode cX2_ifWritten 58 = .ok (.invokevirtual 170, 3) := by decide +kernel
theorem dX2_ifWritten_61 : decode cX2_ifWritten 61 = .ok (.aload_n 0, 1) := by decide +kernel
theorem dX2_ifWritten_62 : decode cX2_ifWritten 62 = .ok (.iload_n 1, 1) := by decide +kernel
theorem dX2_ifWritten_63 : decode cX2_ifWritten 63 = .ok (.iload_n 3, 1) := by decide +kernel
theorem dX2_ifWritten_64 : decode cX2_ifWritten 64 = .ok (.invokevirtual 174, 3) := by decide +kernel
theorem dX2_ifWritten_67 : decode cX2_ifWritten 67 = .ok (.ireturn, 1) := by decide +kernel
set_option maxRecDepth 20000 in
theorem ggX2_ifRewritten_X2_copiesOfRewriting : GoodIn wsX2_ifRewritten wsX2_copiesOfRewriting := goodIn_r _ [9, 10, 3, 4, 11, 12, 13, 14, 15, 16, 17, 18, 19, 20, 21, 22, 23, 24, 25, 26, 27, 28, 29, 30, 31, 32, 33, 34, 35, 36, 37, 38, 39, 40, 41, 42, 43, 44, 45, 46, 47, 48, 49, 50, 51, 52, 53, 54, 55, 56, 57, 58, 59, 60, 61, 62, 63, 64, 65, 66, 67, 68, 69, 70, 71, 72, 73, 74, 75, 76, 77, 78, 79, 80, 81, 82, 83, 84, 85, 86, 87, 88, 89, 90, 91, 92, 93, 94, 95, 96, 97, 98, 99, 100, 101, 102, 103, 104, 105, 106, 107, 108, 109, 110, 111, 112, 113] (by decide +kernel) (by decide +kernel)
set_option maxRecDepth 20000 in
theorem gX2_ifRewritten_X2_copiesOfRewriting : GoodIn wsX2_ifRewritten (wsV RX2 179 RX2 yX2_copiesOfRewriting wsX2_copiesOfRewriting) := goodIn_app (goodIn_of _ (by decide +kernel)) ggX2_ifRewritten_X2_copiesOfRewriting
theorem dX2_ifRewritten_0 : decode cX2_ifRewritten 0 = .ok (.iload_n 1, 1) := by decide +kernel
theorem dX2_ifRewritten_1 : decode cX2_ifRewritten 1 = .ok (.iconst 1, 1) := by decide +kernel
theorem dX2_ifRewritten_2 : decode cX2_ifRewritten 2 = .ok (.if_icmp .lt 9, 3) := by decide +kernel
theorem dX2_ifRewritten_5 : decode cX2_ifRewritten 5 = .ok (.iload_n 1, 1) := by decide +kernel
theorem dX2_ifRewritten_6 : decode cX2_ifRewritten 6 = .ok (.bipush 9, 2) := by decide +kernel
theorem dX2_ifRewritten_8 : decode cX2_ifRewritten 8 = .ok (.if_icmp .le 13, 3) := by decide +kernel
theorem dX2_ifRewritten_11 : decode cX2_ifRewritten 11 = .ok (.new 52, 3) := by decide +kernel
theorem dX2_ifRewritten_14 : decode cX2_ifRewritten 14 = .ok (.dup, 1) := by decide +kernel
theorem dX2_ifRewritten_15 : decode cX2_ifRewritten 15 = .ok (.ldc 177, 2) := by decide +kernel
theorem dX2_ifRewritten_17 : decode cX2_ifRewritten 17 = .ok (.invokespecial 56, 3) := by decide +kernel
theorem dX2_ifRewritten_20 : decode cX2_ifRewritten 20 = .ok (.athrow, 1) := by decide +kernel
theorem dX2_ifRewritten_21 : decode cX2_ifRewritten 21 = .ok (.aload_n 0, 1) := by decide +kernel
theorem dX2_ifRewritten_22 : decode cX2_ifRewritten 22 = .ok (.aload_n 0, 1) := by decide +kernel
theorem dX2_ifRewritten_23 : decode cX2_ifRewritten 23 = .ok (.getfield 10, 3) := by decide +kernel
theorem dX2_ifRewritten_26 : decode cX2_ifRewritten 26 = .ok (.getfield 112, 3) := by decide +kernel
theorem dX2_ifRewritten_29 : decode cX2_ifRewritten 29 = .ok (.iconst 0, 1) := by decide +kernel
theorem dX2_ifRewritten_30 : decode cX2_ifRewritten 30 = .ok (.iaload, 1) := by decide +kernel
theorem dX2_ifRewritten_31 : decode cX2_ifRewritten 31 = .ok (.iload_n 1, 1) := by decide +kernel
theorem dX2_ifRewritten_32 : decode cX2_ifRewritten 32 = .ok (.invokevirtual 179, 3) := by decide +kernel
theorem dX2_ifRewritten_35 : decode cX2_ifRewritten 35 = .ok (.ireturn, 1) := by decide +kernel
set_option maxRecDepth 20000 in
theorem ggX2_bestRule_X2_copiesOfRewriting : GoodIn wsX2_bestRule wsX2_copiesOfRewriting := goodIn_r _ [7, 8, 9, 10, 11, 12, 13, 14, 15, 16, 17, 18, 19, 20, 21, 22, 23, 24, 25, 26, 27, 28, 29, 30, 31, 32, 33, 34, 35, 36, 37, 38, 39, 40, 41, 42, 43, 44, 45, 46, 47, 48, 49, 50, 51, 52, 53, 54, 55, 56, 57, 58, 59, 60, 61, 62, 63, 64, 65, 66, 67, 68, 69, 70, 71, 72, 73, 74, 75, 76, 77, 78, 79, 80, 81, 82, 83, 84, 85, 86, 87, 88, 89, 90, 91, 92, 93, 94, 95, 96, 97, 98, 99, 100, 101, 102, 103, 104, 105, 106, 107, 108, 109, 110, 111, 112, 113] (by decide +kernel) (by decide +kernel)
set_option maxRecDepth 20000 in
theorem gX2_bestRule_X2_copiesOfRewriting : GoodIn wsX2_bestRule (wsV RX2 179 RX2 yX2_copiesOfRewriting wsX2_copiesOfRewriting) := goodIn_app (goodIn_of _ (by decide +kernel)) ggX2_bestRule_X2_copiesOfRewriting
theorem dX2_bestRule_0 : decode cX2_bestRule 0 = .ok (.iload_n 1, 1) := by decide +kernel
theorem dX2_bestRule_1 : decode cX2_bestRule 1 = .ok (.iconst 1, 1) := by decide +kernel
theorem dX2_bestRule_2 : decode cX2_bestRule 2 = .ok (.if_icmp .lt 9, 3) := by decide +kernel
theorem dX2_bestRule_5 : decode cX2_bestRule 5 = .ok (.iload_n 1, 1) := by decide +kernel
theorem dX2_bestRule_6 : decode cX2_bestRule 6 = .ok (.bipush 9, 2) := by decide +kernel
theorem dX2_bestRule_8 : decode cX2_bestRule 8 = .ok (.if_icmp .le 13, 3) := by decide +kernel
theorem dX2_bestRule_11 : decode cX2_bestRule 11 = .ok (.new 52, 3) := by decide +kernel
theorem dX2_bestRule_14 : decode cX2_bestRule 14 = .ok (.dup, 1) := by decide +kernel
theorem dX2_bestRule_15 : decode cX2_bestRule 15 = .ok (.ldc 177, 2) := by decide +kernel
theorem dX2_bestRule_17 : decode cX2_bestRule 17 = .ok (.invokespecial 56, 3) := by decide +kernel
theorem dX2_bestRule_20 : decode cX2_bestRule 20 = .ok (.athrow, 1) := by decide +kernel
theorem dX2_bestRule_21 : decode cX2_bestRule 21 = .ok (.iconst 0, 1) := by decide +kernel
theorem dX2_bestRule_22 : decode cX2_bestRule 22 = .ok (.istore_n 2, 1) := by decide +kernel
theorem dX2_bestRule_23 : decode cX2_bestRule 23 = .ok (.aload_n 0, 1) := by decide +kernel
theorem dX2_bestRule_24 : decode cX2_bestRule 24 = .ok (.iconst 0, 1) := by decide +kernel
theorem dX2_bestRule_25 : decode cX2_bestRule 25 = .ok (.iload_n 1, 1) := by decide +kernel
theorem dX2_bestRule_26 : decode cX2_bestRule 26 = .ok (.invokevirtual 179, 3) := by decide +kernel
theorem dX2_bestRule_29 : decode cX2_bestRule 29 = .ok (.istore_n 3, 1) := by decide +kernel
theorem dX2_bestRule_30 : decode cX2_bestRule 30 = .ok (.iconst 1, 1) := by decide +kernel
theorem dX2_bestRule_31 : decode cX2_bestRule 31 = .ok (.istore 4, 2) := by decide +kernel
theorem dX2_bestRule_33 : decode cX2_bestRule 33 = .ok (.iload 4, 2) := by decide +kernel
theorem dX2_bestRule_35 : decode cX2_bestRule 35 = .ok (.iconst 3, 1) := by decide +kernel
theorem dX2_bestRule_36 : decode cX2_bestRule 36 = .ok (.if_icmp .ge 30, 3) := by decide +kernel
theorem dX2_bestRule_39 : decode cX2_bestRule 39 = .ok (.aload_n 0, 1) := by decide +kernel
theorem dX2_bestRule_40 : decode cX2_bestRule 40 = .ok (.iload 4, 2) := by decide +kernel
theorem dX2_bestRule_42 : decode cX2_bestRule 42 = .ok (.iload_n 1, 1) := by decide +kernel
theorem dX2_bestRule_43 : decode cX2_bestRule 43 = .ok (.invokevirtual 179, 3) := by decide +kernel
theorem dX2_bestRule_46 : decode cX2_bestRule 46 = .ok (.istore 5, 2) := by decide +kernel
theorem dX2_bestRule_48 : decode cX2_bestRule 48 = .ok (.iload 5, 2) := by decide +kernel
theorem dX2_bestRule_50 : decode cX2_bestRule 50 = .ok (.iload_n 3, 1) := by decide +kernel
theorem dX2_bestRule_51 : decode cX2_bestRule 51 = .ok (.if_icmp .ge 9, 3) := by decide +kernel
theorem dX2_bestRule_54 : decode cX2_bestRule 54 = .ok (.iload 4, 2) := by decide +kernel
theorem dX2_bestRule_56 : decode cX2_bestRule 56 = .ok (.istore_n 2, 1) := by decide +kernel
theorem dX2_bestRule_57 : decode cX2_bestRule 57 = .ok (.iload 5, 2) := by decide +kernel
theorem dX2_bestRule_59 : decode cX2_bestRule 59 = .ok (.istore_n 3, 1) := by decide +kernel
theorem dX2_bestRule_60 : decode cX2_bestRule 60 = .ok (.iinc 4 1, 3) := by decide +kernel
theorem dX2_bestRule_63 : decode cX2_bestRule 63 = .ok (.goto (-30), 3) := by decide +kernel
theorem dX2_bestRule_66 : decode cX2_bestRule 66 = .ok (.iload_n 2, 1) := by decide +kernel
theorem dX2_bestRule_67 : decode cX2_bestRule 67 = .ok (.ireturn, 1) := by decide +kernel
set_option maxRecDepth 20000 in
theorem ggX2_amplification_X1_writes : GoodIn wsX2_amplification wsX1_writes := goodIn_r _ [6, 7, 8, 9, 5, 10, 23, 24, 25, 26, 27, 28, 29, 30, 31, 32, 33, 34, 35, 36, 37, 38, 39] (by decide +kernel) (by decide +kernel)
set_option maxRecDepth 20000 in
theorem gX2_amplification_X1_writes : GoodIn wsX2_amplification (wsV RX2 182 RX1 yX1_writes wsX1_writes) := goodIn_app (goodIn_of _ (by decide +kernel)) ggX2_amplification_X1_writes
set_option maxRecDepth 20000 in
theorem ggX2_amplification_X1_copies : GoodIn wsX2_amplification wsX1_copies := goodIn_r _ [14, 15, 23, 24, 25, 26, 27, 28, 29, 30, 31, 32, 33, 34, 35, 36, 37, 38, 39] (by decide +kernel) (by decide +kernel)
set_option maxRecDepth 20000 in
theorem gX2_amplification_X1_copies : GoodIn wsX2_amplification (wsV RX2 93 RX1 yX1_copies wsX1_copies) := goodIn_app (goodIn_of _ (by decide +kernel)) ggX2_amplification_X1_copies
theorem dX2_amplification_0 : decode cX2_amplification 0 = .ok (.aload_n 0, 1) := by decide +kernel
theorem dX2_amplification_1 : decode cX2_amplification 1 = .ok (.getfield 10, 3) := by decide +kernel
theorem dX2_amplification_4 : decode cX2_amplification 4 = .ok (.invokevirtual 182, 3) := by decide +kernel
theorem dX2_amplification_7 : decode cX2_amplification 7 = .ok (.istore_n 1, 1) := by decide +kernel
theorem dX2_amplification_8 : decode cX2_amplification 8 = .ok (.iload_n 1, 1) := by decide +kernel
theorem dX2_amplification_9 : decode cX2_amplification 9 = .ok (.ifCond .ne 5, 3) := by decide +kernel
theorem dX2_amplification_12 : decode cX2_amplification 12 = .ok (.dconst 1, 1) := by decide +kernel
theorem dX2_amplification_13 : decode cX2_amplification 13 = .ok (.dreturn, 1) := by decide +kernel
theorem dX2_amplification_14 : decode cX2_amplification 14 = .ok (.iload_n 1, 1) := by decide +kernel
theorem dX2_amplification_15 : decode cX2_amplification 15 = .ok (.aload_n 0, 1) := by decide +kernel
theorem dX2_amplification_16 : decode cX2_amplification 16 = .ok (.getfield 10, 3) := by decide +kernel
theorem dX2_amplification_19 : decode cX2_amplification 19 = .ok (.invokevirtual 93, 3) := by decide +kernel
theorem dX2_amplification_22 : decode cX2_amplification 22 = .ok (.iadd, 1) := by decide +kernel
theorem dX2_amplification_23 : decode cX2_amplification 23 = .ok (.i2d, 1) := by decide +kernel
theorem dX2_amplification_24 : decode cX2_amplification 24 = .ok (.iload_n 1, 1) := by decide +kernel
theorem dX2_amplification_25 : decode cX2_amplification 25 = .ok (.i2d, 1) := by decide +kernel
theorem dX2_amplification_26 : decode cX2_amplification 26 = .ok (.ddiv, 1) := by decide +kernel
theorem dX2_amplification_27 : decode cX2_amplification 27 = .ok (.dreturn, 1) := by decide +kernel
set_option maxRecDepth 20000 in
theorem ggX2_digest_X2_count : GoodIn wsX2_digest wsX2_count := goodIn_ca (goodIn_r _ [10, 11, 12, 13, 2, 14, 15, 9, 16, 17, 18, 19, 20, 21, 22, 23, 24, 25, 26, 27, 28, 29, 30, 31, 32, 33, 34, 35, 36, 37, 38, 39, 40, 41, 42, 43, 44, 45, 46, 47, 48, 49, 50, 51, 52, 53, 54, 55, 56, 57, 58, 59, 60, 61, 62, 63, 64, 65, 66, 67, 68, 222, 223, 224, 225, 226, 227, 228, 229, 230, 231, 232, 233, 234, 235, 236, 237, 238, 239, 240, 241, 242, 243, 244, 245] (by decide +kernel) (by decide +kernel)) (goodIn_sub (fun _ h => List.mem_cons_of_mem _ (List.mem_append_right _ h)) (by decide +kernel))
set_option maxRecDepth 20000 in
theorem gX2_digest_X2_count : GoodIn wsX2_digest (wsV RX2 187 RX2 yX2_count wsX2_count) := goodIn_app (goodIn_of _ (by decide +kernel)) ggX2_digest_X2_count
set_option maxRecDepth 20000 in
theorem ggX2_digest_X2_mixed : GoodIn wsX2_digest wsX2_mixed := goodIn_r _ [71, 72] (by decide +kernel) (by decide +kernel)
set_option maxRecDepth 20000 in
theorem gX2_digest_X2_mixed : GoodIn wsX2_digest (va_wsS RX2 190 yX2_mixed wsX2_mixed) := goodIn_app (goodIn_of _ (by decide +kernel)) ggX2_digest_X2_mixed
set_option maxRecDepth 20000 in
theorem ggX2_digest_X2_withPages : GoodIn wsX2_digest wsX2_withPages := goodIn_r _ [76, 2, 77, 78, 79, 20, 80, 81, 82, 37, 83, 84, 85, 86, 87, 88, 89, 90, 91, 92, 69, 70, 9, 71, 72, 222, 223, 224, 225, 226, 227, 228, 229, 230, 231, 232, 233, 234, 235, 236, 237, 238, 239, 240, 241, 242, 243, 244, 245] (by decide +kernel) (by decide +kernel)
set_option maxRecDepth 20000 in
theorem gX2_digest_X2_withPages : GoodIn wsX2_digest (wsV RX2 194 RX2 yX2_withPages wsX2_withPages) := goodIn_app (goodIn_of _ (by decide +kernel)) ggX2_digest_X2_withPages
set_option maxRecDepth 20000 in
theorem ggX2_digest_X2_withBlocks : GoodIn wsX2_digest wsX2_withBlocks := goodIn_r _ [96, 2, 97, 98, 99, 100, 20, 101, 102, 22, 24, 47, 103, 104, 105, 106, 107, 108, 109, 110, 68, 111, 112, 113, 114, 82, 115, 116, 117, 118, 119, 81, 120, 121, 122, 123, 124, 125, 126, 69, 70, 9, 71, 72, 222, 223, 224, 225, 226, 227, 228, 229, 230, 231, 232, 233, 234, 235, 236, 237, 238, 239, 240, 241, 242, 243, 244, 245] (by decide +kernel) (by decide +kernel)
set_option maxRecDepth 20000 in
theorem gX2_digest_X2_withBlocks : GoodIn wsX2_digest (wsV RX2 198 RX2 yX2_withBlocks wsX2_withBlocks) := goodIn_app (goodIn_of _ (by decide +kernel)) ggX2_digest_X2_withBlocks
set_option maxRecDepth 20000 in
theorem ggX2_digest_X2_withStreams : GoodIn wsX2_digest wsX2_withStreams := goodIn_r _ [130, 2, 131, 132, 133, 20, 134, 32, 42, 135, 136, 137, 138, 139, 82, 89, 90, 91, 92, 81, 140, 141, 142, 143, 69, 70, 9, 71, 72, 222, 223, 224, 225, 226, 227, 228, 229, 230, 231, 232, 233, 234, 235, 236, 237, 238, 239, 240, 241, 242, 243, 244, 245] (by decide +kernel) (by decide +kernel)
set_option maxRecDepth 20000 in
theorem gX2_digest_X2_withStreams : GoodIn wsX2_digest (wsV RX2 201 RX2 yX2_withStreams wsX2_withStreams) := goodIn_app (goodIn_of _ (by decide +kernel)) ggX2_digest_X2_withStreams
set_option maxRecDepth 20000 in
theorem ggX2_digest_X2_withForecasts : GoodIn wsX2_digest wsX2_withForecasts := goodIn_r _ [147, 148, 149, 150, 9, 151, 152, 2, 153, 154, 155, 20, 156, 81, 82, 37, 83, 84, 119, 102, 24, 22, 47, 68, 32, 42, 135, 67, 23, 157, 158, 159, 160, 56, 57, 54, 58, 161, 162, 163, 164, 165, 166, 167, 168, 169, 170, 171, 172, 173, 59, 60, 61, 62, 63, 64, 65, 66, 174, 175, 176, 177, 115, 116, 117, 118, 178, 179, 180, 181, 182, 183, 184, 185, 186, 187, 188, 189, 190, 191, 192, 193, 194, 39, 40, 41, 195, 86, 87, 88, 89, 90, 91, 92, 196, 44, 45, 46, 25, 26, 27, 69, 70, 71, 72, 222, 223, 224, 225, 226, 227, 228, 229, 230, 231, 232, 233, 234, 235, 236, 237, 238, 239, 240, 241, 242, 243, 244, 245] (by decide +kernel) (by decide +kernel)
set_option maxRecDepth 20000 in
theorem gX2_digest_X2_withForecasts : GoodIn wsX2_digest (wsV RX2 204 RX2 yX2_withForecasts wsX2_withForecasts) := goodIn_app (goodIn_of _ (by decide +kernel)) ggX2_digest_X2_withForecasts
set_option maxRecDepth 20000 in
theorem ggX2_digest_X2_ifRewritten : GoodIn wsX2_digest wsX2_ifRewritten := goodIn_ca (goodIn_r _ [200, 11, 12, 2, 3, 201, 202, 203, 9, 204, 152, 205, 153, 154, 155, 20, 156, 81, 82, 37, 83, 84, 119, 102, 24, 22, 47, 68, 32, 42, 135, 67, 23, 157, 158, 159, 160, 56, 57, 54, 58, 161, 162, 163, 164, 206, 90, 91, 92, 165, 166, 167, 168, 169, 170, 171, 172, 173, 59, 60, 61, 62, 63, 64, 65, 66, 174, 175, 176, 177, 115, 116, 117, 118, 178, 179, 180, 181, 182, 183, 184, 185, 186, 187, 188, 189, 194, 39, 40, 41, 222, 223, 224, 225, 226, 227, 228, 229, 230, 231, 232, 233, 234, 235, 236, 237, 238, 239, 240, 241, 242, 243, 244, 245] (by decide +kernel) (by decide +kernel)) (goodIn_sub (fun _ h => List.mem_cons_of_mem _ (List.mem_append_right _ h)) (by decide +kernel))
set_option maxRecDepth 20000 in
theorem gX2_digest_X2_ifRewritten : GoodIn wsX2_digest (wsV RX2 207 RX2 yX2_ifRewritten wsX2_ifRewritten) := goodIn_app (goodIn_of _ (by decide +kernel)) ggX2_digest_X2_ifRewritten
set_option maxRecDepth 20000 in
theorem ggX2_digest_X2_bestRule : GoodIn wsX2_digest wsX2_bestRule := goodIn_ca (goodIn_r _ [210, 11, 12, 201, 202, 203, 9, 204, 152, 2, 3, 205, 153, 154, 155, 20, 156, 81, 82, 37, 83, 84, 119, 102, 24, 22, 47, 68, 32, 42, 135, 67, 23, 157, 158, 159, 160, 56, 57, 54, 58, 161, 162, 163, 164, 206, 90, 91, 92, 165, 166, 167, 168, 169, 170, 171, 172, 173, 59, 60, 61, 62, 63, 64, 65, 66, 174, 175, 176, 177, 115, 116, 117, 118, 178, 179, 180, 181, 182, 183, 184, 185, 186, 187, 188, 189, 194, 39, 40, 41, 222, 223, 224, 225, 226, 227, 228, 229, 230, 231, 232, 233, 234, 235, 236, 237, 238, 239, 240, 241, 242, 243, 244, 245] (by decide +kernel) (by decide +kernel)) (goodIn_sub (fun _ h => List.mem_cons_of_mem _ (List.mem_append_right _ h)) (by decide +kernel))
set_option maxRecDepth 20000 in
theorem gX2_digest_X2_bestRule : GoodIn wsX2_digest (wsV RX2 210 RX2 yX2_bestRule wsX2_bestRule) := goodIn_app (goodIn_of _ (by decide +kernel)) ggX2_digest_X2_bestRule
set_option maxRecDepth 20000 in
theorem ggX2_digest_X2_amplification : GoodIn wsX2_digest wsX2_amplification := goodIn_r _ [214, 2, 215, 34, 35, 20, 36, 37, 25, 26, 27, 194, 39, 40, 41, 42, 222, 223, 224, 225, 226, 227, 228, 229, 230, 231, 232, 233, 234, 235, 236, 237, 238, 239, 240, 241, 242, 243, 244, 245] (by decide +kernel) (by decide +kernel)
set_option maxRecDepth 20000 in
theorem gX2_digest_X2_amplification : GoodIn wsX2_digest (wsV RX2 213 RX2 yX2_amplification wsX2_amplification) := goodIn_app (goodIn_of _ (by decide +kernel)) ggX2_digest_X2_amplification
set_option maxRecDepth 20000 in
theorem ggX2_digest_X2_bitsOf : GoodIn wsX2_digest wsX2_bitsOf := goodIn_r _ [218, 219, 220, 221] (by decide +kernel) (by decide +kernel)
set_option maxRecDepth 20000 in
theorem gX2_digest_X2_bitsOf : GoodIn wsX2_digest (va_wsS RX2 217 yX2_bitsOf wsX2_bitsOf) := goodIn_app (goodIn_of _ (by decide +kernel)) ggX2_digest_X2_bitsOf
theorem dX2_digest_0 : decode cX2_digest 0 = .ok (.ldc2_w 185, 3) := by decide +kernel
theorem dX2_digest_3 : decode cX2_digest 3 = .ok (.lstore_n 1, 1) := by decide +kernel
theorem dX2_digest_4 : decode cX2_digest 4 = .ok (.iconst 0, 1) := by decide +kernel
theorem dX2_digest_5 : decode cX2_digest 5 = .ok (.istore_n 3, 1) := by decide +kernel
theorem dX2_digest_6 : decode cX2_digest 6 = .ok (.iload_n 3, 1) := by decide +kernel
theorem dX2_digest_7 : decode cX2_digest 7 = .ok (.bipush 12, 2) := by decide +kernel
theorem dX2_digest_9 : decode cX2_digest 9 = .ok (.if_icmp .ge 20, 3) := by decide +kernel
theorem dX2_digest_12 : decode cX2_digest 12 = .ok (.lload_n 1, 1) := by decide +kernel
theorem dX2_digest_13 : decode cX2_digest 13 = .ok (.aload_n 0, 1) := by decide +kernel
theorem dX2_digest_14 : decode cX2_digest 14 = .ok (.iload_n 3, 1) := by decide +kernel
theorem dX2_digest_15 : decode cX2_digest 15 = .ok (.invokevirtual 187, 3) := by decide +kernel
theorem dX2_digest_18 : decode cX2_digest 18 = .ok (.i2l, 1) := by decide +kernel
theorem dX2_digest_19 : decode cX2_digest 19 = .ok (.invokestatic 190, 3) := by decide +kernel
theorem dX2_digest_22 : decode cX2_digest 22 = .ok (.lstore_n 1, 1) := by decide +kernel
theorem dX2_digest_23 : decode cX2_digest 23 = .ok (.iinc 3 1, 3) := by decide +kernel
theorem dX2_digest_26 : decode cX2_digest 26 = .ok (.goto (-20), 3) := by decide +kernel
theorem dX2_digest_29 : decode cX2_digest 29 = .ok (.lload_n 1, 1) := by decide +kernel
theorem dX2_digest_30 : decode cX2_digest 30 = .ok (.aload_n 0, 1) := by decide +kernel
theorem dX2_digest_31 : decode cX2_digest 31 = .ok (.getfield 10, 3) := by decide +kernel
theorem dX2_digest_34 : decode cX2_digest 34 = .ok (.getfield 112, 3) := by decide +kernel
theorem dX2_digest_37 : decode cX2_digest 37 = .ok (.iconst 0, 1) := by decide +kernel
theorem dX2_digest_38 : decode cX2_digest 38 = .ok (.iaload, 1) := by decide +kernel
theorem dX2_digest_39 : decode cX2_digest 39 = .ok (.i2l, 1) := by decide +kernel
theorem dX2_digest_40 : decode cX2_digest 40 = .ok (.invokestatic 190, 3) := by decide +kernel
theorem dX2_digest_43 : decode cX2_digest 43 = .ok (.lstore_n 1, 1) := by decide +kernel
theorem dX2_digest_44 : decode cX2_digest 44 = .ok (.lload_n 1, 1) := by decide +kernel
theorem dX2_digest_45 : decode cX2_digest 45 = .ok (.aload_n 0, 1) := by decide +kernel
theorem dX2_digest_46 : decode cX2_digest 46 = .ok (.getfield 10, 3) := by decide +kernel
theorem dX2_digest_49 : decode cX2_digest 49 = .ok (.getfield 112, 3) := by decide +kernel
theorem dX2_digest_52 : decode cX2_digest 52 = .ok (.iconst 1, 1) := by decide +kernel
theorem dX2_digest_53 : decode cX2_digest 53 = .ok (.iaload, 1) := by decide +kernel
theorem dX2_digest_54 : decode cX2_digest 54 = .ok (.i2l, 1) := by decide +kernel
theorem dX2_digest_55 : decode cX2_digest 55 = .ok (.invokestatic 190, 3) := by decide +kernel
theorem dX2_digest_58 : decode cX2_digest 58 = .ok (.lstore_n 1, 1) := by decide +kernel
theorem dX2_digest_59 : decode cX2_digest 59 = .ok (.aload_n 0, 1) := by decide +kernel
theorem dX2_digest_60 : decode cX2_digest 60 = .ok (.lload_n 1, 1) := by decide +kernel
theorem dX2_digest_61 : decode cX2_digest 61 = .ok (.invokevirtual 194, 3) := by decide +kernel
theorem dX2_digest_64 : decode cX2_digest 64 = .ok (.lstore_n 1, 1) := by decide +kernel
theorem dX2_digest_65 : decode cX2_digest 65 = .ok (.aload_n 0, 1) := by decide +kernel
theorem dX2_digest_66 : decode cX2_digest 66 = .ok (.lload_n 1, 1) := by decide +kernel
theorem dX2_digest_67 : decode cX2_digest 67 = .ok (.invokevirtual 198, 3) := by decide +kernel
theorem dX2_digest_70 : decode cX2_digest 70 = .ok (.lstore_n 1, 1) := by decide +kernel
theorem dX2_digest_71 : decode cX2_digest 71 = .ok (.aload_n 0, 1) := by decide +kernel
theorem dX2_digest_72 : decode cX2_digest 72 = .ok (.lload_n 1, 1) := by decide +kernel
theorem dX2_digest_73 : decode cX2_digest 73 = .ok (.invokevirtual 201, 3) := by decide +kernel
theorem dX2_digest_76 : decode cX2_digest 76 = .ok (.lstore_n 1, 1) := by decide +kernel
theorem dX2_digest_77 : decode cX2_digest 77 = .ok (.aload_n 0, 1) := by decide +kernel
theorem dX2_digest_78 : decode cX2_digest 78 = .ok (.lload_n 1, 1) := by decide +kernel
theorem dX2_digest_79 : decode cX2_digest 79 = .ok (.invokevirtual 204, 3) := by decide +kernel
theorem dX2_digest_82 : decode cX2_digest 82 = .ok (.lstore_n 1, 1) := by decide +kernel
theorem dX2_digest_83 : decode cX2_digest 83 = .ok (.lload_n 1, 1) := by decide +kernel
theorem dX2_digest_84 : decode cX2_digest 84 = .ok (.aload_n 0, 1) := by decide +kernel
theorem dX2_digest_85 : decode cX2_digest 85 = .ok (.iconst 1, 1) := by decide +kernel
theorem dX2_digest_86 : decode cX2_digest 86 = .ok (.invokevirtual 207, 3) := by decide +kernel
theorem dX2_digest_89 : decode cX2_digest 89 = .ok (.i2l, 1) := by decide +kernel
theorem dX2_digest_90 : decode cX2_digest 90 = .ok (.invokestatic 190, 3) := by decide +kernel
theorem dX2_digest_93 : decode cX2_digest 93 = .ok (.lstore_n 1, 1) := by decide +kernel
theorem dX2_digest_94 : decode cX2_digest 94 = .ok (.lload_n 1, 1) := by decide +kernel
theorem dX2_digest_95 : decode cX2_digest 95 = .ok (.aload_n 0, 1) := by decide +kernel
theorem dX2_digest_96 : decode cX2_digest 96 = .ok (.iconst 2, 1) := by decide +kernel
theorem dX2_digest_97 : decode cX2_digest 97 = .ok (.invokevirtual 210, 3) := by decide +kernel
theorem dX2_digest_100 : decode cX2_digest 100 = .ok (.i2l, 1) := by decide +kernel
theorem dX2_digest_101 : decode cX2_digest 101 = .ok (.invokestatic 190, 3) := by decide +kernel
theorem dX2_digest_104 : decode cX2_digest 104 = .ok (.lstore_n 1, 1) := by decide +kernel
theorem dX2_digest_105 : decode cX2_digest 105 = .ok (.lload_n 1, 1) := by decide +kernel
theorem dX2_digest_106 : decode cX2_digest 106 = .ok (.aload_n 0, 1) := by decide +kernel
theorem dX2_digest_107 : decode cX2_digest 107 = .ok (.invokevirtual 213, 3) := by decide +kernel
theorem dX2_digest_110 : decode cX2_digest 110 = .ok (.invokestatic 217, 3) := by decide +kernel
theorem dX2_digest_113 : decode cX2_digest 113 = .ok (.invokestatic 190, 3) := by decide +kernel
theorem dX2_digest_116 : decode cX2_digest 116 = .ok (.lstore_n 1, 1) := by decide +kernel
theorem dX2_digest_117 : decode cX2_digest 117 = .ok (.lload_n 1, 1) := by decide +kernel
theorem dX2_digest_118 : decode cX2_digest 118 = .ok (.aload_n 0, 1) := by decide +kernel
theorem dX2_digest_119 : decode cX2_digest 119 = .ok (.getfield 31, 3) := by decide +kernel
theorem dX2_digest_122 : decode cX2_digest 122 = .ok (.i2l, 1) := by decide +kernel
theorem dX2_digest_123 : decode cX2_digest 123 = .ok (.invokestatic 190, 3) := by decide +kernel
theorem dX2_digest_126 : decode cX2_digest 126 = .ok (.lstore_n 1, 1) := by decide +kernel
theorem dX2_digest_127 : decode cX2_digest 127 = .ok (.iconst 0, 1) := by decide +kernel
theorem dX2_digest_128 : decode cX2_digest 128 = .ok (.istore_n 3, 1) := by decide +kernel
theorem dX2_digest_129 : decode cX2_digest 129 = .ok (.iload_n 3, 1) := by decide +kernel
theorem dX2_digest_130 : decode cX2_digest 130 = .ok (.aload_n 0, 1) := by decide +kernel
theorem dX2_digest_131 : decode cX2_digest 131 = .ok (.getfield 31, 3) := by decide +kernel
theorem dX2_digest_134 : decode cX2_digest 134 = .ok (.if_icmp .ge 21, 3) := by decide +kernel
theorem dX2_digest_137 : decode cX2_digest 137 = .ok (.lload_n 1, 1) := by decide +kernel
theorem dX2_digest_138 : decode cX2_digest 138 = .ok (.aload_n 0, 1) := by decide +kernel
theorem dX2_digest_139 : decode cX2_digest 139 = .ok (.getfield 27, 3) := by decide +kernel
theorem dX2_digest_142 : decode cX2_digest 142 = .ok (.iload_n 3, 1) := by decide +kernel
theorem dX2_digest_143 : decode cX2_digest 143 = .ok (.iaload, 1) := by decide +kernel
theorem dX2_digest_144 : decode cX2_digest 144 = .ok (.i2l, 1) := by decide +kernel
theorem dX2_digest_145 : decode cX2_digest 145 = .ok (.invokestatic 190, 3) := by decide +kernel
theorem dX2_digest_148 : decode cX2_digest 148 = .ok (.lstore_n 1, 1) := by decide +kernel
theorem dX2_digest_149 : decode cX2_digest 149 = .ok (.iinc 3 1, 3) := by decide +kernel
theorem dX2_digest_152 : decode cX2_digest 152 = .ok (.goto (-23), 3) := by decide +kernel
theorem dX2_digest_155 : decode cX2_digest 155 = .ok (.lload_n 1, 1) := by decide +kernel
theorem dX2_digest_156 : decode cX2_digest 156 = .ok (.lreturn, 1) := by decide +kernel
theorem dX2_isIn_0 : decode cX2_isIn 0 = .ok (.iload_n 0, 1) := by decide +kernel
theorem dX2_isIn_1 : decode cX2_isIn 1 = .ok (.ifCond .lt 12, 3) := by decide +kernel
theorem dX2_isIn_4 : decode cX2_isIn 4 = .ok (.iload_n 0, 1) := by decide +kernel
theorem dX2_isIn_5 : decode cX2_isIn 5 = .ok (.iload_n 1, 1) := by decide +kernel
theorem dX2_isIn_6 : decode cX2_isIn 6 = .ok (.if_icmp .ge 7, 3) := by decide +kernel
theorem dX2_isIn_9 : decode cX2_isIn 9 = .ok (.iconst 1, 1) := by decide +kernel
theorem dX2_isIn_10 : decode cX2_isIn 10 = .ok (.goto 4, 3) := by decide +kernel
theorem dX2_isIn_13 : decode cX2_isIn 13 = .ok (.iconst 0, 1) := by decide +kernel
theorem dX2_isIn_14 : decode cX2_isIn 14 = .ok (.ireturn, 1) := by decide +kernel
set_option maxRecDepth 20000 in
theorem ggX2_isSettingValue_X2_isIn : GoodIn wsX2_isSettingValue wsX2_isIn := goodIn_r _ [4] (by decide +kernel) (by decide +kernel)
set_option maxRecDepth 20000 in
theorem gX2_isSettingValue_X2_isIn : GoodIn wsX2_isSettingValue (va_wsS RX2 41 yX2_isIn wsX2_isIn) := goodIn_app (goodIn_of _ (by decide +kernel)) ggX2_isSettingValue_X2_isIn
theorem dX2_isSettingValue_0 : decode cX2_isSettingValue 0 = .ok (.iload_n 0, 1) := by decide +kernel
theorem dX2_isSettingValue_1 : decode cX2_isSettingValue 1 = .ok (.ifCond .ne 11, 3) := by decide +kernel
theorem dX2_isSettingValue_4 : decode cX2_isSettingValue 4 = .ok (.iload_n 1, 1) := by decide +kernel
theorem dX2_isSettingValue_5 : decode cX2_isSettingValue 5 = .ok (.iconst 3, 1) := by decide +kernel
theorem dX2_isSettingValue_6 : decode cX2_isSettingValue 6 = .ok (.invokestatic 41, 3) := by decide +kernel
theorem dX2_isSettingValue_9 : decode cX2_isSettingValue 9 = .ok (.goto 18, 3) := by decide +kernel
theorem dX2_isSettingValue_12 : decode cX2_isSettingValue 12 = .ok (.iload_n 1, 1) := by decide +kernel
theorem dX2_isSettingValue_13 : decode cX2_isSettingValue 13 = .ok (.iconst 2, 1) := by decide +kernel
theorem dX2_isSettingValue_14 : decode cX2_isSettingValue 14 = .ok (.if_icmp .lt 12, 3) := by decide +kernel
theorem dX2_isSettingValue_17 : decode cX2_isSettingValue 17 = .ok (.iload_n 1, 1) := by decide +kernel
theorem dX2_isSettingValue_18 : decode cX2_isSettingValue 18 = .ok (.iconst 4, 1) := by decide +kernel
theorem dX2_isSettingValue_19 : decode cX2_isSettingValue 19 = .ok (.if_icmp .gt 7, 3) := by decide +kernel
theorem dX2_isSettingValue_22 : decode cX2_isSettingValue 22 = .ok (.iconst 1, 1) := by decide +kernel
theorem dX2_isSettingValue_23 : decode cX2_isSettingValue 23 = .ok (.goto 4, 3) := by decide +kernel
theorem dX2_isSettingValue_26 : decode cX2_isSettingValue 26 = .ok (.iconst 0, 1) := by decide +kernel
theorem dX2_isSettingValue_27 : decode cX2_isSettingValue 27 = .ok (.ireturn, 1) := by decide +kernel
set_option maxRecDepth 20000 in
theorem ggX2_saveState_X2_dropOldest : GoodIn wsX2_saveState wsX2_dropOldest := goodIn_r _ [8, 2, 1, 42, 43, 44, 45, 46, 47, 48] (by decide +kernel) (by decide +kernel)
set_option maxRecDepth 20000 in
theorem gX2_saveState_X2_dropOldest : GoodIn wsX2_saveState (wsV RX2 221 RX2 yX2_dropOldest wsX2_dropOldest) := goodIn_app (goodIn_of _ (by decide +kernel)) ggX2_saveState_X2_dropOldest
set_option maxRecDepth 20000 in
theorem ggX2_saveState_X1_becomeLike : GoodIn wsX2_saveState wsX1_becomeLike := goodIn_r _ [13, 14, 15, 16, 17, 18, 19, 20, 21, 22, 23, 24, 25, 26, 27, 28, 29, 30, 31, 32, 12, 33, 34, 35, 36, 37, 38, 39, 40, 41, 49, 50, 51, 52, 53, 54, 55, 56, 57, 58, 59, 60, 61, 62, 63, 64, 65] (by decide +kernel) (by decide +kernel)
set_option maxRecDepth 20000 in
theorem gX2_saveState_X1_becomeLike : GoodIn wsX2_saveState (wsV RX2 224 RX1 yX1_becomeLike wsX1_becomeLike) := goodIn_app (goodIn_of _ (by decide +kernel)) ggX2_saveState_X1_becomeLike
theorem dX2_saveState_0 : decode cX2_saveState 0 = .ok (.aload_n 0, 1) := by decide +kernel
theorem dX2_saveState_1 : decode cX2_saveState 1 = .ok (.getfield 23, 3) := by decide +kernel
theorem dX2_saveState_4 : decode cX2_saveState 4 = .ok (.bipush 6, 2) := by decide +kernel
theorem dX2_saveState_6 : decode cX2_saveState 6 = .ok (.if_icmp .ne 7, 3) := by decide +kernel
theorem dX2_saveState_9 : decode cX2_saveState 9 = .ok (.aload_n 0, 1) := by decide +kernel
theorem dX2_saveState_10 : decode cX2_saveState 10 = .ok (.invokevirtual 221, 3) := by decide +kernel
theorem dX2_saveState_13 : decode cX2_saveState 13 = .ok (.aload_n 0, 1) := by decide +kernel
theorem dX2_saveState_14 : decode cX2_saveState 14 = .ok (.getfield 19, 3) := by decide +kernel
theorem dX2_saveState_17 : decode cX2_saveState 17 = .ok (.aload_n 0, 1) := by decide +kernel
theorem dX2_saveState_18 : decode cX2_saveState 18 = .ok (.getfield 23, 3) := by decide +kernel
theorem dX2_saveState_21 : decode cX2_saveState 21 = .ok (.aaload, 1) := by decide +kernel
theorem dX2_saveState_22 : decode cX2_saveState 22 = .ok (.aload_n 0, 1) := by decide +kernel
theorem dX2_saveState_23 : decode cX2_saveState 23 = .ok (.getfield 10, 3) := by decide +kernel
theorem dX2_saveState_26 : decode cX2_saveState 26 = .ok (.invokevirtual 224, 3) := by decide +kernel
theorem dX2_saveState_29 : decode cX2_saveState 29 = .ok (.aload_n 0, 1) := by decide +kernel
theorem dX2_saveState_30 : decode cX2_saveState 30 = .ok (.dup, 1) := by decide +kernel
theorem dX2_saveState_31 : decode cX2_saveState 31 = .ok (.getfield 23, 3) := by decide +kernel
theorem dX2_saveState_34 : decode cX2_saveState 34 = .ok (.iconst 1, 1) := by decide +kernel
theorem dX2_saveState_35 : decode cX2_saveState 35 = .ok (.iadd, 1) := by decide +kernel
theorem dX2_saveState_36 : decode cX2_saveState 36 = .ok (.putfield 23, 3) := by decide +kernel
theorem dX2_saveState_39 : decode cX2_saveState 39 = .ok (.return_, 1) := by decide +kernel
theorem dX2_dropOldest_0 : decode cX2_dropOldest 0 = .ok (.aload_n 0, 1) := by decide +kernel
theorem dX2_dropOldest_1 : decode cX2_dropOldest 1 = .ok (.getfield 19, 3) := by decide +kernel
theorem dX2_dropOldest_4 : decode cX2_dropOldest 4 = .ok (.iconst 0, 1) := by decide +kernel
theorem dX2_dropOldest_5 : decode cX2_dropOldest 5 = .ok (.aaload, 1) := by decide +kernel
theorem dX2_dropOldest_6 : decode cX2_dropOldest 6 = .ok (.astore_n 1, 1) := by decide +kernel
theorem dX2_dropOldest_7 : decode cX2_dropOldest 7 = .ok (.iconst 1, 1) := by decide +kernel
theorem dX2_dropOldest_8 : decode cX2_dropOldest 8 = .ok (.istore_n 2, 1) := by decide +kernel
theorem dX2_dropOldest_9 : decode cX2_dropOldest 9 = .ok (.iload_n 2, 1) := by decide +kernel
theorem dX2_dropOldest_10 : decode cX2_dropOldest 10 = .ok (.bipush 6, 2) := by decide +kernel
theorem dX2_dropOldest_12 : decode cX2_dropOldest 12 = .ok (.if_icmp .ge 23, 3) := by decide +kernel
theorem dX2_dropOldest_15 : decode cX2_dropOldest 15 = .ok (.aload_n 0, 1) := by decide +kernel
theorem dX2_dropOldest_16 : decode cX2_dropOldest 16 = .ok (.getfield 19, 3) := by decide +kernel
theorem dX2_dropOldest_19 : decode cX2_dropOldest 19 = .ok (.iload_n 2, 1) := by decide +kernel
theorem dX2_dropOldest_20 : decode cX2_dropOldest 20 = .ok (.iconst 1, 1) := by decide +kernel
theorem dX2_dropOldest_21 : decode cX2_dropOldest 21 = .ok (.isub, 1) := by decide +kernel
theorem dX2_dropOldest_22 : decode cX2_dropOldest 22 = .ok (.aload_n 0, 1) := by decide +kernel
theorem dX2_dropOldest_23 : decode cX2_dropOldest 23 = .ok (.getfield 19, 3) := by decide +kernel
theorem dX2_dropOldest_26 : decode cX2_dropOldest 26 = .ok (.iload_n 2, 1) := by decide +kernel
theorem dX2_dropOldest_27 : decode cX2_dropOldest 27 = .ok (.aaload, 1) := by decide +kernel
theorem dX2_dropOldest_28 : decode cX2_dropOldest 28 = .ok (.aastore, 1) := by decide +kernel
theorem dX2_dropOldest_29 : decode cX2_dropOldest 29 = .ok (.iinc 2 1, 3) := by decide +kernel
theorem dX2_dropOldest_32 : decode cX2_dropOldest 32 = .ok (.goto (-23), 3) := by decide +kernel
theorem dX2_dropOldest_35 : decode cX2_dropOldest 35 = .ok (.aload_n 0, 1) := by decide +kernel
theorem dX2_dropOldest_36 : decode cX2_dropOldest 36 = .ok (.getfield 19, 3) := by decide +kernel
theorem dX2_dropOldest_39 : decode cX2_dropOldest 39 = .ok (.iconst 5, 1) := by decide +kernel
theorem dX2_dropOldest_40 : decode cX2_dropOldest 40 = .ok (.aload_n 1, 1) := by decide +kernel
theorem dX2_dropOldest_41 : decode cX2_dropOldest 41 = .ok (.aastore, 1) := by decide +kernel
theorem dX2_dropOldest_42 : decode cX2_dropOldest 42 = .ok (.aload_n 0, 1) := by decide +kernel
theorem dX2_dropOldest_43 : decode cX2_dropOldest 43 = .ok (.dup, 1) := by decide +kernel
theorem dX2_dropOldest_44 : decode cX2_dropOldest 44 = .ok (.getfield 23, 3) := by decide +kernel
theorem dX2_dropOldest_47 : decode cX2_dropOldest 47 = .ok (.iconst 1, 1) := by decide +kernel
theorem dX2_dropOldest_48 : decode cX2_dropOldest 48 = .ok (.isub, 1) := by decide +kernel
theorem dX2_dropOldest_49 : decode cX2_dropOldest 49 = .ok (.putfield 23, 3) := by decide +kernel
theorem dX2_dropOldest_52 : decode cX2_dropOldest 52 = .ok (.return_, 1) := by decide +kernel
set_option maxRecDepth 20000 in
theorem ggX2_readBuffer_X0_restart : GoodIn wsX2_readBuffer wsX0_restart := goodIn_r _ [8, 9, 51, 52, 53, 54] (by decide +kernel) (by decide +kernel)
set_option maxRecDepth 20000 in
theorem gX2_readBuffer_X0_restart : GoodIn wsX2_readBuffer (wsV RX2 128 RX0 yX0_restart wsX0_restart) := goodIn_app (goodIn_of _ (by decide +kernel)) ggX2_readBuffer_X0_restart
set_option maxRecDepth 20000 in
theorem ggX2_readBuffer_X0_accepts : GoodIn wsX2_readBuffer wsX0_accepts := goodIn_r _ [13, 9, 14, 15, 16, 17, 7, 18, 19, 20, 21, 22, 23, 24, 25, 26, 27, 28, 29, 30, 31, 32, 33, 34, 35, 36, 37, 38, 39, 40, 41, 42, 43, 51, 52, 53, 54] (by decide +kernel) (by decide +kernel)
set_option maxRecDepth 20000 in
theorem gX2_readBuffer_X0_accepts : GoodIn wsX2_readBuffer (wsV RX2 131 RX0 yX0_accepts wsX0_accepts) := goodIn_app (goodIn_of _ (by decide +kernel)) ggX2_readBuffer_X0_accepts
theorem dX2_readBuffer_0 : decode cX2_readBuffer 0 = .ok (.aload_n 0, 1) := by decide +kernel
theorem dX2_readBuffer_1 : decode cX2_readBuffer 1 = .ok (.getfield 37, 3) := by decide +kernel
theorem dX2_readBuffer_4 : decode cX2_readBuffer 4 = .ok (.invokevirtual 128, 3) := by decide +kernel
theorem dX2_readBuffer_7 : decode cX2_readBuffer 7 = .ok (.iconst 0, 1) := by decide +kernel
theorem dX2_readBuffer_8 : decode cX2_readBuffer 8 = .ok (.istore_n 1, 1) := by decide +kernel
theorem dX2_readBuffer_9 : decode cX2_readBuffer 9 = .ok (.iload_n 1, 1) := by decide +kernel
theorem dX2_readBuffer_10 : decode cX2_readBuffer 10 = .ok (.aload_n 0, 1) := by decide +kernel
theorem dX2_readBuffer_11 : decode cX2_readBuffer 11 = .ok (.getfield 31, 3) := by decide +kernel
theorem dX2_readBuffer_14 : decode cX2_readBuffer 14 = .ok (.if_icmp .ge 27, 3) := by decide +kernel
theorem dX2_readBuffer_17 : decode cX2_readBuffer 17 = .ok (.aload_n 0, 1) := by decide +kernel
theorem dX2_readBuffer_18 : decode cX2_readBuffer 18 = .ok (.getfield 37, 3) := by decide +kernel
theorem dX2_readBuffer_21 : decode cX2_readBuffer 21 = .ok (.aload_n 0, 1) := by decide +kernel
theorem dX2_readBuffer_22 : decode cX2_readBuffer 22 = .ok (.getfield 27, 3) := by decide +kernel
theorem dX2_readBuffer_25 : decode cX2_readBuffer 25 = .ok (.iload_n 1, 1) := by decide +kernel
theorem dX2_readBuffer_26 : decode cX2_readBuffer 26 = .ok (.iaload, 1) := by decide +kernel
theorem dX2_readBuffer_27 : decode cX2_readBuffer 27 = .ok (.invokevirtual 131, 3) := by decide +kernel
theorem dX2_readBuffer_30 : decode cX2_readBuffer 30 = .ok (.ifCond .ne 5, 3) := by decide +kernel
theorem dX2_readBuffer_33 : decode cX2_readBuffer 33 = .ok (.iload_n 1, 1) := by decide +kernel
theorem dX2_readBuffer_34 : decode cX2_readBuffer 34 = .ok (.ireturn, 1) := by decide +kernel
theorem dX2_readBuffer_35 : decode cX2_readBuffer 35 = .ok (.iinc 1 1, 3) := by decide +kernel
theorem dX2_readBuffer_38 : decode cX2_readBuffer 38 = .ok (.goto (-29), 3) := by decide +kernel
theorem dX2_readBuffer_41 : decode cX2_readBuffer 41 = .ok (.aload_n 0, 1) := by decide +kernel
theorem dX2_readBuffer_42 : decode cX2_readBuffer 42 = .ok (.getfield 31, 3) := by decide +kernel
theorem dX2_readBuffer_45 : decode cX2_readBuffer 45 = .ok (.ireturn, 1) := by decide +kernel
set_option maxRecDepth 20000 in
theorem ggX2_tryWriting_X1_becomeLike : GoodIn wsX2_tryWriting wsX1_becomeLike := goodIn_r _ [7, 8, 9, 10, 11, 12, 13, 14, 15, 16, 17, 18, 19, 20, 21, 22, 23, 24, 25, 26, 6, 27, 28, 29, 30, 31, 32, 33, 34, 35, 80, 81, 82, 83, 84, 85, 86, 87, 88, 89, 90, 91, 92, 93, 94, 95, 96] (by decide +kernel) (by decide +kernel)
set_option maxRecDepth 20000 in
theorem gX2_tryWriting_X1_becomeLike : GoodIn wsX2_tryWriting (wsV RX2 224 RX1 yX1_becomeLike wsX1_becomeLike) := goodIn_app (goodIn_of _ (by decide +kernel)) ggX2_tryWriting_X1_becomeLike
set_option maxRecDepth 20000 in
theorem ggX2_tryWriting_X1_writePage : GoodIn wsX2_tryWriting wsX1_writePage := goodIn_r _ [39, 22, 9, 12, 10, 40, 41, 42, 6, 43, 23, 44, 45, 46, 47, 48, 15, 16, 49, 50, 51, 52, 18, 17, 53, 54, 55, 56, 11, 21, 57, 58, 59, 60, 13, 8, 61, 62, 63, 64, 19, 14, 65, 66, 67, 68, 20, 24, 69, 70, 71, 72, 80, 81, 82, 83, 84, 85, 86, 87, 88, 89, 90, 91, 92, 93, 94, 95, 96] (by decide +kernel) (by decide +kernel)
set_option maxRecDepth 20000 in
theorem gX2_tryWriting_X1_writePage : GoodIn wsX2_tryWriting (wsV RX2 228 RX1 yX1_writePage wsX1_writePage) := goodIn_app (goodIn_of _ (by decide +kernel)) ggX2_tryWriting_X1_writePage
theorem dX2_tryWriting_0 : decode cX2_tryWriting 0 = .ok (.aload_n 0, 1) := by decide +kernel
theorem dX2_tryWriting_1 : decode cX2_tryWriting 1 = .ok (.getfield 16, 3) := by decide +kernel
theorem dX2_tryWriting_4 : decode cX2_tryWriting 4 = .ok (.aload_n 0, 1) := by decide +kernel
theorem dX2_tryWriting_5 : decode cX2_tryWriting 5 = .ok (.getfield 10, 3) := by decide +kernel
theorem dX2_tryWriting_8 : decode cX2_tryWriting 8 = .ok (.invokevirtual 224, 3) := by decide +kernel
theorem dX2_tryWriting_11 : decode cX2_tryWriting 11 = .ok (.aload_n 0, 1) := by decide +kernel
theorem dX2_tryWriting_12 : decode cX2_tryWriting 12 = .ok (.getfield 16, 3) := by decide +kernel
theorem dX2_tryWriting_15 : decode cX2_tryWriting 15 = .ok (.iload_n 1, 1) := by decide +kernel
theorem dX2_tryWriting_16 : decode cX2_tryWriting 16 = .ok (.iload_n 2, 1) := by decide +kernel
theorem dX2_tryWriting_17 : decode cX2_tryWriting 17 = .ok (.invokevirtual 228, 3) := by decide +kernel
theorem dX2_tryWriting_20 : decode cX2_tryWriting 20 = .ok (.return_, 1) := by decide +kernel
set_option maxRecDepth 20000 in
theorem ggX2_forecast_X1_copies : GoodIn wsX2_forecast wsX1_copies := goodIn_r _ [7, 8, 33, 34, 35, 36, 37, 38, 39, 40, 41, 42, 43, 44, 45, 46, 47, 48, 49] (by decide +kernel) (by decide +kernel)
set_option maxRecDepth 20000 in
theorem gX2_forecast_X1_copies : GoodIn wsX2_forecast (wsV RX2 93 RX1 yX1_copies wsX1_copies) := goodIn_app (goodIn_of _ (by decide +kernel)) ggX2_forecast_X1_copies
set_option maxRecDepth 20000 in
theorem ggX2_forecast_X1_blockOf : GoodIn wsX2_forecast wsX1_blockOf := goodIn_r _ [12, 13, 14, 15, 16, 6, 17, 33, 34, 35, 36, 37, 38, 39, 40, 41, 42, 43, 44, 45, 46, 47, 48, 49] (by decide +kernel) (by decide +kernel)
set_option maxRecDepth 20000 in
theorem gX2_forecast_X1_blockOf : GoodIn wsX2_forecast (wsV RX2 66 RX1 yX1_blockOf wsX1_blockOf) := goodIn_app (goodIn_of _ (by decide +kernel)) ggX2_forecast_X1_blockOf
set_option maxRecDepth 20000 in
theorem ggX2_forecast_X1_erasures : GoodIn wsX2_forecast wsX1_erasures := goodIn_r _ [21, 22, 23, 24, 6, 25, 33, 34, 35, 36, 37, 38, 39, 40, 41, 42, 43, 44, 45, 46, 47, 48, 49] (by decide +kernel) (by decide +kernel)
set_option maxRecDepth 20000 in
theorem gX2_forecast_X1_erasures : GoodIn wsX2_forecast (wsV RX2 231 RX1 yX1_erasures wsX1_erasures) := goodIn_app (goodIn_of _ (by decide +kernel)) ggX2_forecast_X1_erasures
theorem dX2_forecast_0 : decode cX2_forecast 0 = .ok (.iload_n 2, 1) := by decide +kernel
theorem dX2_forecast_1 : decode cX2_forecast 1 = .ok (.lookupswitch 52 #[(0, 27), (1, 43)], 27) := by decide +kernel
theorem dX2_forecast_28 : decode cX2_forecast 28 = .ok (.aload_n 0, 1) := by decide +kernel
theorem dX2_forecast_29 : decode cX2_forecast 29 = .ok (.getfield 16, 3) := by decide +kernel
theorem dX2_forecast_32 : decode cX2_forecast 32 = .ok (.invokevirtual 93, 3) := by decide +kernel
theorem dX2_forecast_35 : decode cX2_forecast 35 = .ok (.aload_n 0, 1) := by decide +kernel
theorem dX2_forecast_36 : decode cX2_forecast 36 = .ok (.getfield 10, 3) := by decide +kernel
theorem dX2_forecast_39 : decode cX2_forecast 39 = .ok (.invokevirtual 93, 3) := by decide +kernel
theorem dX2_forecast_42 : decode cX2_forecast 42 = .ok (.isub, 1) := by decide +kernel
theorem dX2_forecast_43 : decode cX2_forecast 43 = .ok (.ireturn, 1) := by decide +kernel
theorem dX2_forecast_44 : decode cX2_forecast 44 = .ok (.aload_n 0, 1) := by decide +kernel
theorem dX2_forecast_45 : decode cX2_forecast 45 = .ok (.getfield 16, 3) := by decide +kernel
theorem dX2_forecast_48 : decode cX2_forecast 48 = .ok (.iload_n 1, 1) := by decide +kernel
theorem dX2_forecast_49 : decode cX2_forecast 49 = .ok (.invokevirtual 66, 3) := by decide +kernel
theorem dX2_forecast_52 : decode cX2_forecast 52 = .ok (.ireturn, 1) := by decide +kernel
theorem dX2_forecast_53 : decode cX2_forecast 53 = .ok (.aload_n 0, 1) := by decide +kernel
theorem dX2_forecast_54 : decode cX2_forecast 54 = .ok (.getfield 16, 3) := by decide +kernel
theorem dX2_forecast_57 : decode cX2_forecast 57 = .ok (.invokevirtual 231, 3) := by decide +kernel
theorem dX2_forecast_60 : decode cX2_forecast 60 = .ok (.aload_n 0, 1) := by decide +kernel
theorem dX2_forecast_61 : decode cX2_forecast 61 = .ok (.getfield 10, 3) := by decide +kernel
theorem dX2_forecast_64 : decode cX2_forecast 64 = .ok (.invokevirtual 231, 3) := by decide +kernel
theorem dX2_forecast_67 : decode cX2_forecast 67 = .ok (.isub, 1) := by decide +kernel
theorem dX2_forecast_68 : decode cX2_forecast 68 = .ok (.ireturn, 1) := by decide +kernel
set_option maxRecDepth 20000 in
theorem ggX2_copiesOfRewriting_X1_becomeLike : GoodIn wsX2_copiesOfRewriting wsX1_becomeLike := goodIn_r _ [9, 10, 11, 12, 13, 14, 15, 16, 17, 18, 19, 20, 21, 22, 23, 24, 25, 26, 27, 28, 8, 29, 30, 31, 32, 33, 34, 35, 36, 37, 90, 91, 92, 93, 94, 95, 96, 97, 98, 99, 100, 101, 102, 103, 104, 105, 106] (by decide +kernel) (by decide +kernel)
set_option maxRecDepth 20000 in
theorem gX2_copiesOfRewriting_X1_becomeLike : GoodIn wsX2_copiesOfRewriting (wsV RX2 224 RX1 yX1_becomeLike wsX1_becomeLike) := goodIn_app (goodIn_of _ (by decide +kernel)) ggX2_copiesOfRewriting_X1_becomeLike
set_option maxRecDepth 20000 in
theorem ggX2_copiesOfRewriting_X1_isWritten : GoodIn wsX2_copiesOfRewriting wsX1_isWritten := goodIn_r _ [41, 10, 90, 91, 92, 93, 94, 95, 96, 97, 98, 99, 100, 101, 102, 103, 104, 105, 106] (by decide +kernel) (by decide +kernel)
set_option maxRecDepth 20000 in
theorem gX2_copiesOfRewriting_X1_isWritten : GoodIn wsX2_copiesOfRewriting (wsV RX2 74 RX1 yX1_isWritten wsX1_isWritten) := goodIn_app (goodIn_of _ (by decide +kernel)) ggX2_copiesOfRewriting_X1_isWritten
set_option maxRecDepth 20000 in
theorem ggX2_copiesOfRewriting_X1_writePage : GoodIn wsX2_copiesOfRewriting wsX1_writePage := goodIn_r _ [45, 24, 11, 14, 12, 46, 47, 48, 8, 49, 25, 50, 51, 52, 53, 54, 17, 18, 55, 56, 57, 58, 20, 19, 59, 60, 61, 62, 13, 23, 63, 64, 65, 66, 15, 10, 67, 68, 69, 70, 21, 16, 71, 72, 73, 74, 22, 26, 75, 76, 77, 78, 90, 91, 92, 93, 94, 95, 96, 97, 98, 99, 100, 101, 102, 103, 104, 105, 106] (by decide +kernel) (by decide +kernel)
set_option maxRecDepth 20000 in
theorem gX2_copiesOfRewriting_X1_writePage : GoodIn wsX2_copiesOfRewriting (wsV RX2 228 RX1 yX1_writePage wsX1_writePage) := goodIn_app (goodIn_of _ (by decide +kernel)) ggX2_copiesOfRewriting_X1_writePage
set_option maxRecDepth 20000 in
theorem ggX2_copiesOfRewriting_X1_copies : GoodIn wsX2_copiesOfRewriting wsX1_copies := goodIn_r _ [82, 22, 90, 91, 92, 93, 94, 95, 96, 97, 98, 99, 100, 101, 102, 103, 104, 105, 106] (by decide +kernel) (by decide +kernel)
set_option maxRecDepth 20000 in
theorem gX2_copiesOfRewriting_X1_copies : GoodIn wsX2_copiesOfRewriting (wsV RX2 93 RX1 yX1_copies wsX1_copies) := goodIn_app (goodIn_of _ (by decide +kernel)) ggX2_copiesOfRewriting_X1_copies
theorem dX2_copiesOfRewriting_0 : decode cX2_copiesOfRewriting 0 = .ok (.aload_n 0, 1) := by decide +kernel
theorem dX2_copiesOfRewriting_1 : decode cX2_copiesOfRewriting 1 = .ok (.getfield 16, 3) := by decide +kernel
theorem dX2_copiesOfRewriting_4 : decode cX2_copiesOfRewriting 4 = .ok (.aload_n 0, 1) := by decide +kernel
theorem dX2_copiesOfRewriting_5 : decode cX2_copiesOfRewriting 5 = .ok (.getfield 10, 3) := by decide +kernel
theorem dX2_copiesOfRewriting_8 : decode cX2_copiesOfRewriting 8 = .ok (.invokevirtual 224, 3) := by decide +kernel
theorem dX2_copiesOfRewriting_11 : decode cX2_copiesOfRewriting 11 = .ok (.aload_n 0, 1) := by decide +kernel
theorem dX2_copiesOfRewriting_12 : decode cX2_copiesOfRewriting 12 = .ok (.getfield 16, 3) := by decide +kernel
theorem dX2_copiesOfRewriting_15 : decode cX2_copiesOfRewriting 15 = .ok (.getfield 112, 3) := by decide +kernel
theorem dX2_copiesOfRewriting_18 : decode cX2_copiesOfRewriting 18 = .ok (.iconst 0, 1) := by decide +kernel
theorem dX2_copiesOfRewriting_19 : decode cX2_copiesOfRewriting 19 = .ok (.iload_n 1, 1) := by decide +kernel
theorem dX2_copiesOfRewriting_20 : decode cX2_copiesOfRewriting 20 = .ok (.iastore, 1) := by decide +kernel
theorem dX2_copiesOfRewriting_21 : decode cX2_copiesOfRewriting 21 = .ok (.iconst 0, 1) := by decide +kernel
theorem dX2_copiesOfRewriting_22 : decode cX2_copiesOfRewriting 22 = .ok (.istore_n 3, 1) := by decide +kernel
theorem dX2_copiesOfRewriting_23 : decode cX2_copiesOfRewriting 23 = .ok (.iload_n 3, 1) := by decide +kernel
theorem dX2_copiesOfRewriting_24 : decode cX2_copiesOfRewriting 24 = .ok (.iload_n 2, 1) := by decide +kernel
theorem dX2_copiesOfRewriting_25 : decode cX2_copiesOfRewriting 25 = .ok (.if_icmp .ge 60, 3) := by decide +kernel
theorem dX2_copiesOfRewriting_28 : decode cX2_copiesOfRewriting 28 = .ok (.iconst 0, 1) := by decide +kernel
theorem dX2_copiesOfRewriting_29 : decode cX2_copiesOfRewriting 29 = .ok (.istore 4, 2) := by decide +kernel
theorem dX2_copiesOfRewriting_31 : decode cX2_copiesOfRewriting 31 = .ok (.iload 4, 2) := by decide +kernel
theorem dX2_copiesOfRewriting_33 : decode cX2_copiesOfRewriting 33 = .ok (.bipush 40, 2) := by decide +kernel
theorem dX2_copiesOfRewriting_35 : decode cX2_copiesOfRewriting 35 = .ok (.if_icmp .ge 44, 3) := by decide +kernel
theorem dX2_copiesOfRewriting_38 : decode cX2_copiesOfRewriting 38 = .ok (.aload_n 0, 1) := by decide +kernel
theorem dX2_copiesOfRewriting_39 : decode cX2_copiesOfRewriting 39 = .ok (.getfield 16, 3) := by decide +kernel
theorem dX2_copiesOfRewriting_42 : decode cX2_copiesOfRewriting 42 = .ok (.iload 4, 2) := by decide +kernel
theorem dX2_copiesOfRewriting_44 : decode cX2_copiesOfRewriting 44 = .ok (.aload_n 0, 1) := by decide +kernel
theorem dX2_copiesOfRewriting_45 : decode cX2_copiesOfRewriting 45 = .ok (.getfield 16, 3) := by decide +kernel
theorem dX2_copiesOfRewriting_48 : decode cX2_copiesOfRewriting 48 = .ok (.iload 4, 2) := by decide +kernel
theorem dX2_copiesOfRewriting_50 : decode cX2_copiesOfRewriting 50 = .ok (.invokevirtual 74, 3) := by decide +kernel
theorem dX2_copiesOfRewriting_53 : decode cX2_copiesOfRewriting 53 = .ok (.ifCond .eq 16, 3) := by decide +kernel
theorem dX2_copiesOfRewriting_56 : decode cX2_copiesOfRewriting 56 = .ok (.aload_n 0, 1) := by decide +kernel
theorem dX2_copiesOfRewriting_57 : decode cX2_copiesOfRewriting 57 = .ok (.getfield 16, 3) := by decide +kernel
theorem dX2_copiesOfRewriting_60 : decode cX2_copiesOfRewriting 60 = .ok (.getfield 83, 3) := by decide +kernel
theorem dX2_copiesOfRewriting_63 : decode cX2_copiesOfRewriting 63 = .ok (.iload 4, 2) := by decide +kernel
theorem dX2_copiesOfRewriting_65 : decode cX2_copiesOfRewriting 65 = .ok (.iaload, 1) := by decide +kernel
theorem dX2_copiesOfRewriting_66 : decode cX2_copiesOfRewriting 66 = .ok (.goto 4, 3) := by decide +kernel
theorem dX2_copiesOfRewriting_69 : decode cX2_copiesOfRewriting 69 = .ok (.iconst 0, 1) := by decide +kernel
theorem dX2_copiesOfRewriting_70 : decode cX2_copiesOfRewriting 70 = .ok (.invokevirtual 228, 3) := by decide +kernel
theorem dX2_copiesOfRewriting_73 : decode cX2_copiesOfRewriting 73 = .ok (.iinc 4 1, 3) := by decide +kernel
theorem dX2_copiesOfRewriting_76 : decode cX2_copiesOfRewriting 76 = .ok (.goto (-45), 3) := by decide +kernel
theorem dX2_copiesOfRewriting_79 : decode cX2_copiesOfRewriting 79 = .ok (.iinc 3 1, 3) := by decide +kernel
theorem dX2_copiesOfRewriting_82 : decode cX2_copiesOfRewriting 82 = .ok (.goto (-59), 3) := by decide +kernel
theorem dX2_copiesOfRewriting_85 : decode cX2_copiesOfRewriting 85 = .ok (.aload_n 0, 1) := by decide +kernel
theorem dX2_copiesOfRewriting_86 : decode cX2_copiesOfRewriting 86 = .ok (.getfield 16, 3) := by decide +kernel
theorem dX2_copiesOfRewriting_89 : decode cX2_copiesOfRewriting 89 = .ok (.invokevirtual 93, 3) := by decide +kernel
theorem dX2_copiesOfRewriting_92 : decode cX2_copiesOfRewriting 92 = .ok (.aload_n 0, 1) := by decide +kernel
theorem dX2_copiesOfRewriting_93 : decode cX2_copiesOfRewriting 93 = .ok (.getfield 10, 3) := by decide +kernel
theorem dX2_copiesOfRewriting_96 : decode cX2_copiesOfRewriting 96 = .ok (.invokevirtual 93, 3) := by decide +kernel
theorem dX2_copiesOfRewriting_99 : decode cX2_copiesOfRewriting 99 = .ok (.isub, 1) := by decide +kernel
theorem dX2_copiesOfRewriting_100 : decode cX2_copiesOfRewriting 100 = .ok (.ireturn, 1) := by decide +kernel
theorem dX2_mixed_0 : decode cX2_mixed 0 = .ok (.ldc2_w 234, 3) := by decide +kernel
theorem dX2_mixed_3 : decode cX2_mixed 3 = .ok (.lload_n 0, 1) := by decide +kernel
theorem dX2_mixed_4 : decode cX2_mixed 4 = .ok (.lmul, 1) := by decide +kernel
theorem dX2_mixed_5 : decode cX2_mixed 5 = .ok (.lload_n 2, 1) := by decide +kernel
theorem dX2_mixed_6 : decode cX2_mixed 6 = .ok (.ladd, 1) := by decide +kernel
theorem dX2_mixed_7 : decode cX2_mixed 7 = .ok (.lreturn, 1) := by decide +kernel
set_option maxRecDepth 20000 in
theorem ggX2_withPages_X1_pageProperty : GoodIn wsX2_withPages wsX1_pageProperty := goodIn_r _ [6, 7, 8, 9, 10, 11, 12, 13, 14, 5, 15, 16, 17, 18, 19, 32, 33, 34, 35, 36, 37, 38, 39, 40, 41, 42, 43, 44, 45, 46, 47, 48] (by decide +kernel) (by decide +kernel)
set_option maxRecDepth 20000 in
theorem gX2_withPages_X1_pageProperty : GoodIn wsX2_withPages (wsV RX2 147 RX1 yX1_pageProperty wsX1_pageProperty) := goodIn_app (goodIn_of _ (by decide +kernel)) ggX2_withPages_X1_pageProperty
set_option maxRecDepth 20000 in
theorem ggX2_withPages_X2_mixed : GoodIn wsX2_withPages wsX2_mixed := goodIn_r _ [23, 24] (by decide +kernel) (by decide +kernel)
set_option maxRecDepth 20000 in
theorem gX2_withPages_X2_mixed : GoodIn wsX2_withPages (va_wsS RX2 190 yX2_mixed wsX2_mixed) := goodIn_app (goodIn_of _ (by decide +kernel)) ggX2_withPages_X2_mixed
theorem dX2_withPages_0 : decode cX2_withPages 0 = .ok (.lload_n 1, 1) := by decide +kernel
theorem dX2_withPages_1 : decode cX2_withPages 1 = .ok (.lstore_n 3, 1) := by decide +kernel
theorem dX2_withPages_2 : decode cX2_withPages 2 = .ok (.iconst 0, 1) := by decide +kernel
theorem dX2_withPages_3 : decode cX2_withPages 3 = .ok (.istore 5, 2) := by decide +kernel
theorem dX2_withPages_5 : decode cX2_withPages 5 = .ok (.iload 5, 2) := by decide +kernel
theorem dX2_withPages_7 : decode cX2_withPages 7 = .ok (.bipush 40, 2) := by decide +kernel
theorem dX2_withPages_9 : decode cX2_withPages 9 = .ok (.if_icmp .ge 42, 3) := by decide +kernel
theorem dX2_withPages_12 : decode cX2_withPages 12 = .ok (.iconst 0, 1) := by decide +kernel
theorem dX2_withPages_13 : decode cX2_withPages 13 = .ok (.istore 6, 2) := by decide +kernel
theorem dX2_withPages_15 : decode cX2_withPages 15 = .ok (.iload 6, 2) := by decide +kernel
theorem dX2_withPages_17 : decode cX2_withPages 17 = .ok (.bipush 6, 2) := by decide +kernel
theorem dX2_withPages_19 : decode cX2_withPages 19 = .ok (.if_icmp .ge 26, 3) := by decide +kernel
theorem dX2_withPages_22 : decode cX2_withPages 22 = .ok (.lload_n 3, 1) := by decide +kernel
theorem dX2_withPages_23 : decode cX2_withPages 23 = .ok (.aload_n 0, 1) := by decide +kernel
theorem dX2_withPages_24 : decode cX2_withPages 24 = .ok (.getfield 10, 3) := by decide +kernel
theorem dX2_withPages_27 : decode cX2_withPages 27 = .ok (.iload 5, 2) := by decide +kernel
theorem dX2_withPages_29 : decode cX2_withPages 29 = .ok (.iload 6, 2) := by decide +kernel
theorem dX2_withPages_31 : decode cX2_withPages 31 = .ok (.invokevirtual 147, 3) := by decide +kernel
theorem dX2_withPages_34 : decode cX2_withPages 34 = .ok (.i2l, 1) := by decide +kernel
theorem dX2_withPages_35 : decode cX2_withPages 35 = .ok (.invokestatic 190, 3) := by decide +kernel
theorem dX2_withPages_38 : decode cX2_withPages 38 = .ok (.lstore_n 3, 1) := by decide +kernel
theorem dX2_withPages_39 : decode cX2_withPages 39 = .ok (.iinc 6 1, 3) := by decide +kernel
theorem dX2_withPages_42 : decode cX2_withPages 42 = .ok (.goto (-27), 3) := by decide +kernel
theorem dX2_withPages_45 : decode cX2_withPages 45 = .ok (.iinc 5 1, 3) := by decide +kernel
theorem dX2_withPages_48 : decode cX2_withPages 48 = .ok (.goto (-43), 3) := by decide +kernel
theorem dX2_withPages_51 : decode cX2_withPages 51 = .ok (.lload_n 3, 1) := by decide +kernel
theorem dX2_withPages_52 : decode cX2_withPages 52 = .ok (.lreturn, 1) := by decide +kernel
set_option maxRecDepth 20000 in
theorem ggX2_withBlocks_X1_blockProperty : GoodIn wsX2_withBlocks wsX1_blockProperty := goodIn_r _ [7, 8, 9, 10, 11, 12, 13, 14, 6, 15, 16, 17, 18, 19, 20, 21, 22, 23, 24, 25, 26, 27, 28, 29, 30, 31, 32, 33, 34, 35, 36, 37, 38, 51, 52, 53, 54, 55, 56, 57, 58, 59, 60, 61, 62, 63, 64, 65, 66, 67] (by decide +kernel) (by decide +kernel)
set_option maxRecDepth 20000 in
theorem gX2_withBlocks_X1_blockProperty : GoodIn wsX2_withBlocks (wsV RX2 151 RX1 yX1_blockProperty wsX1_blockProperty) := goodIn_app (goodIn_of _ (by decide +kernel)) ggX2_withBlocks_X1_blockProperty
set_option maxRecDepth 20000 in
theorem ggX2_withBlocks_X2_mixed : GoodIn wsX2_withBlocks wsX2_mixed := goodIn_r _ [42, 43] (by decide +kernel) (by decide +kernel)
set_option maxRecDepth 20000 in
theorem gX2_withBlocks_X2_mixed : GoodIn wsX2_withBlocks (va_wsS RX2 190 yX2_mixed wsX2_mixed) := goodIn_app (goodIn_of _ (by decide +kernel)) ggX2_withBlocks_X2_mixed
theorem dX2_withBlocks_0 : decode cX2_withBlocks 0 = .ok (.lload_n 1, 1) := by decide +kernel
theorem dX2_withBlocks_1 : decode cX2_withBlocks 1 = .ok (.lstore_n 3, 1) := by decide +kernel
theorem dX2_withBlocks_2 : decode cX2_withBlocks 2 = .ok (.iconst 0, 1) := by decide +kernel
theorem dX2_withBlocks_3 : decode cX2_withBlocks 3 = .ok (.istore 5, 2) := by decide +kernel
theorem dX2_withBlocks_5 : decode cX2_withBlocks 5 = .ok (.iload 5, 2) := by decide +kernel
theorem dX2_withBlocks_7 : decode cX2_withBlocks 7 = .ok (.bipush 12, 2) := by decide +kernel
theorem dX2_withBlocks_9 : decode cX2_withBlocks 9 = .ok (.if_icmp .ge 80, 3) := by decide +kernel
theorem dX2_withBlocks_12 : decode cX2_withBlocks 12 = .ok (.iconst 0, 1) := by decide +kernel
theorem dX2_withBlocks_13 : decode cX2_withBlocks 13 = .ok (.istore 6, 2) := by decide +kernel
theorem dX2_withBlocks_15 : decode cX2_withBlocks 15 = .ok (.iload 6, 2) := by decide +kernel
theorem dX2_withBlocks_17 : decode cX2_withBlocks 17 = .ok (.bipush 8, 2) := by decide +kernel
theorem dX2_withBlocks_19 : decode cX2_withBlocks 19 = .ok (.if_icmp .ge 26, 3) := by decide +kernel
theorem dX2_withBlocks_22 : decode cX2_withBlocks 22 = .ok (.lload_n 3, 1) := by decide +kernel
theorem dX2_withBlocks_23 : decode cX2_withBlocks 23 = .ok (.aload_n 0, 1) := by decide +kernel
theorem dX2_withBlocks_24 : decode cX2_withBlocks 24 = .ok (.getfield 10, 3) := by decide +kernel
theorem dX2_withBlocks_27 : decode cX2_withBlocks 27 = .ok (.iload 5, 2) := by decide +kernel
theorem dX2_withBlocks_29 : decode cX2_withBlocks 29 = .ok (.iload 6, 2) := by decide +kernel
theorem dX2_withBlocks_31 : decode cX2_withBlocks 31 = .ok (.invokevirtual 151, 3) := by decide +kernel
theorem dX2_withBlocks_34 : decode cX2_withBlocks 34 = .ok (.i2l, 1) := by decide +kernel
theorem dX2_withBlocks_35 : decode cX2_withBlocks 35 = .ok (.invokestatic 190, 3) := by decide +kernel
theorem dX2_withBlocks_38 : decode cX2_withBlocks 38 = .ok (.lstore_n 3, 1) := by decide +kernel
theorem dX2_withBlocks_39 : decode cX2_withBlocks 39 = .ok (.iinc 6 1, 3) := by decide +kernel
theorem dX2_withBlocks_42 : decode cX2_withBlocks 42 = .ok (.goto (-27), 3) := by decide +kernel
theorem dX2_withBlocks_45 : decode cX2_withBlocks 45 = .ok (.iconst 0, 1) := by decide +kernel
theorem dX2_withBlocks_46 : decode cX2_withBlocks 46 = .ok (.istore 6, 2) := by decide +kernel
theorem dX2_withBlocks_48 : decode cX2_withBlocks 48 = .ok (.iload 6, 2) := by decide +kernel
theorem dX2_withBlocks_50 : decode cX2_withBlocks 50 = .ok (.bipush 8, 2) := by decide +kernel
theorem dX2_withBlocks_52 : decode cX2_withBlocks 52 = .ok (.if_icmp .ge 31, 3) := by decide +kernel
theorem dX2_withBlocks_55 : decode cX2_withBlocks 55 = .ok (.lload_n 3, 1) := by decide +kernel
theorem dX2_withBlocks_56 : decode cX2_withBlocks 56 = .ok (.aload_n 0, 1) := by decide +kernel
theorem dX2_withBlocks_57 : decode cX2_withBlocks 57 = .ok (.getfield 10, 3) := by decide +kernel
theorem dX2_withBlocks_60 : decode cX2_withBlocks 60 = .ok (.getfield 159, 3) := by decide +kernel
theorem dX2_withBlocks_63 : decode cX2_withBlocks 63 = .ok (.iload 5, 2) := by decide +kernel
theorem dX2_withBlocks_65 : decode cX2_withBlocks 65 = .ok (.bipush 8, 2) := by decide +kernel
theorem dX2_withBlocks_67 : decode cX2_withBlocks 67 = .ok (.imul, 1) := by decide +kernel
theorem dX2_withBlocks_68 : decode cX2_withBlocks 68 = .ok (.iload 6, 2) := by decide +kernel
theorem dX2_withBlocks_70 : decode cX2_withBlocks 70 = .ok (.iadd, 1) := by decide +kernel
theorem dX2_withBlocks_71 : decode cX2_withBlocks 71 = .ok (.iaload, 1) := by decide +kernel
theorem dX2_withBlocks_72 : decode cX2_withBlocks 72 = .ok (.i2l, 1) := by decide +kernel
theorem dX2_withBlocks_73 : decode cX2_withBlocks 73 = .ok (.invokestatic 190, 3) := by decide +kernel
theorem dX2_withBlocks_76 : decode cX2_withBlocks 76 = .ok (.lstore_n 3, 1) := by decide +kernel
theorem dX2_withBlocks_77 : decode cX2_withBlocks 77 = .ok (.iinc 6 1, 3) := by decide +kernel
theorem dX2_withBlocks_80 : decode cX2_withBlocks 80 = .ok (.goto (-32), 3) := by decide +kernel
theorem dX2_withBlocks_83 : decode cX2_withBlocks 83 = .ok (.iinc 5 1, 3) := by decide +kernel
theorem dX2_withBlocks_86 : decode cX2_withBlocks 86 = .ok (.goto (-81), 3) := by decide +kernel
theorem dX2_withBlocks_89 : decode cX2_withBlocks 89 = .ok (.lload_n 3, 1) := by decide +kernel
theorem dX2_withBlocks_90 : decode cX2_withBlocks 90 = .ok (.lreturn, 1) := by decide +kernel
set_option maxRecDepth 20000 in
theorem ggX2_withStreams_X1_streamProperty : GoodIn wsX2_withStreams wsX1_streamProperty := goodIn_r _ [6, 7, 8, 9, 10, 11, 12, 5, 13, 14, 15, 16, 17, 18, 19, 20, 21, 22, 23, 36, 37, 38, 39, 40, 41, 42, 43, 44, 45, 46, 47, 48, 49, 50, 51, 52] (by decide +kernel) (by decide +kernel)
set_option maxRecDepth 20000 in
theorem gX2_withStreams_X1_streamProperty : GoodIn wsX2_withStreams (wsV RX2 164 RX1 yX1_streamProperty wsX1_streamProperty) := goodIn_app (goodIn_of _ (by decide +kernel)) ggX2_withStreams_X1_streamProperty
set_option maxRecDepth 20000 in
theorem ggX2_withStreams_X2_mixed : GoodIn wsX2_withStreams wsX2_mixed := goodIn_r _ [27, 28] (by decide +kernel) (by decide +kernel)
set_option maxRecDepth 20000 in
theorem gX2_withStreams_X2_mixed : GoodIn wsX2_withStreams (va_wsS RX2 190 yX2_mixed wsX2_mixed) := goodIn_app (goodIn_of _ (by decide +kernel)) ggX2_withStreams_X2_mixed
theorem dX2_withStreams_0 : decode cX2_withStreams 0 = .ok (.lload_n 1, 1) := by decide +kernel
theorem dX2_withStreams_1 : decode cX2_withStreams 1 = .ok (.lstore_n 3, 1) := by decide +kernel
theorem dX2_withStreams_2 : decode cX2_withStreams 2 = .ok (.iconst 0, 1) := by decide +kernel
theorem dX2_withStreams_3 : decode cX2_withStreams 3 = .ok (.istore 5, 2) := by decide +kernel
theorem dX2_withStreams_5 : decode cX2_withStreams 5 = .ok (.iload 5, 2) := by decide +kernel
theorem dX2_withStreams_7 : decode cX2_withStreams 7 = .ok (.iconst 5, 1) := by decide +kernel
theorem dX2_withStreams_8 : decode cX2_withStreams 8 = .ok (.if_icmp .ge 41, 3) := by decide +kernel
theorem dX2_withStreams_11 : decode cX2_withStreams 11 = .ok (.iconst 0, 1) := by decide +kernel
theorem dX2_withStreams_12 : decode cX2_withStreams 12 = .ok (.istore 6, 2) := by decide +kernel
theorem dX2_withStreams_14 : decode cX2_withStreams 14 = .ok (.iload 6, 2) := by decide +kernel
theorem dX2_withStreams_16 : decode cX2_withStreams 16 = .ok (.iconst 5, 1) := by decide +kernel
theorem dX2_withStreams_17 : decode cX2_withStreams 17 = .ok (.if_icmp .ge 26, 3) := by decide +kernel
theorem dX2_withStreams_20 : decode cX2_withStreams 20 = .ok (.lload_n 3, 1) := by decide +kernel
theorem dX2_withStreams_21 : decode cX2_withStreams 21 = .ok (.aload_n 0, 1) := by decide +kernel
theorem dX2_withStreams_22 : decode cX2_withStreams 22 = .ok (.getfield 10, 3) := by decide +kernel
theorem dX2_withStreams_25 : decode cX2_withStreams 25 = .ok (.iload 5, 2) := by decide +kernel
theorem dX2_withStreams_27 : decode cX2_withStreams 27 = .ok (.iload 6, 2) := by decide +kernel
theorem dX2_withStreams_29 : decode cX2_withStreams 29 = .ok (.invokevirtual 164, 3) := by decide +kernel
theorem dX2_withStreams_32 : decode cX2_withStreams 32 = .ok (.i2l, 1) := by decide +kernel
theorem dX2_withStreams_33 : decode cX2_withStreams 33 = .ok (.invokestatic 190, 3) := by decide +kernel
theorem dX2_withStreams_36 : decode cX2_withStreams 36 = .ok (.lstore_n 3, 1) := by decide +kernel
theorem dX2_withStreams_37 : decode cX2_withStreams 37 = .ok (.iinc 6 1, 3) := by decide +kernel
theorem dX2_withStreams_40 : decode cX2_withStreams 40 = .ok (.goto (-26), 3) := by decide +kernel
theorem dX2_withStreams_43 : decode cX2_withStreams 43 = .ok (.iinc 5 1, 3) := by decide +kernel
theorem dX2_withStreams_46 : decode cX2_withStreams 46 = .ok (.goto (-41), 3) := by decide +kernel
theorem dX2_withStreams_49 : decode cX2_withStreams 49 = .ok (.lload_n 3, 1) := by decide +kernel
theorem dX2_withStreams_50 : decode cX2_withStreams 50 = .ok (.lreturn, 1) := by decide +kernel
set_option maxRecDepth 20000 in
theorem ggX2_withForecasts_X2_tryWriting : GoodIn wsX2_withForecasts wsX2_tryWriting := goodIn_r _ [5, 6, 7, 8, 9, 10, 11, 12, 13, 14, 15, 16, 17, 18, 19, 20, 21, 22, 23, 24, 25, 26, 27, 28, 29, 30, 31, 32, 33, 34, 35, 36, 37, 38, 39, 40, 41, 42, 43, 44, 45, 46, 47, 48, 49, 50, 51, 52, 53, 54, 55, 56, 57, 58, 59, 60, 61, 62, 63, 64, 65, 66, 67, 68, 69, 70, 71, 72, 73, 74, 75, 76, 77, 105, 106, 107, 108, 109, 110, 111, 112, 113, 114, 115, 116, 117, 118, 119, 120, 121, 122, 123, 124, 125, 126, 127, 128] (by decide +kernel) (by decide +kernel)
set_option maxRecDepth 20000 in
theorem gX2_withForecasts_X2_tryWriting : GoodIn wsX2_withForecasts (wsV RX2 170 RX2 yX2_tryWriting wsX2_tryWriting) := goodIn_app (goodIn_of _ (by decide +kernel)) ggX2_withForecasts_X2_tryWriting
set_option maxRecDepth 20000 in
theorem ggX2_withForecasts_X2_forecast : GoodIn wsX2_withForecasts wsX2_forecast := goodIn_r _ [81, 6, 7, 82, 83, 84, 11, 85, 25, 86, 87, 88, 89, 13, 90, 91, 92, 93, 94, 95, 96, 97, 22, 98, 99, 100, 105, 106, 107, 108, 109, 110, 111, 112, 113, 114, 115, 116, 117, 118, 119, 120, 121, 122, 123, 124, 125, 126, 127, 128] (by decide +kernel) (by decide +kernel)
set_option maxRecDepth 20000 in
theorem gX2_withForecasts_X2_forecast : GoodIn wsX2_withForecasts (wsV RX2 174 RX2 yX2_forecast wsX2_forecast) := goodIn_app (goodIn_of _ (by decide +kernel)) ggX2_withForecasts_X2_forecast
set_option maxRecDepth 20000 in
theorem ggX2_withForecasts_X2_mixed : GoodIn wsX2_withForecasts wsX2_mixed := goodIn_r _ [103, 104] (by decide +kernel) (by decide +kernel)
set_option maxRecDepth 20000 in
theorem gX2_withForecasts_X2_mixed : GoodIn wsX2_withForecasts (va_wsS RX2 190 yX2_mixed wsX2_mixed) := goodIn_app (goodIn_of _ (by decide +kernel)) ggX2_withForecasts_X2_mixed
theorem dX2_withForecasts_0 : decode cX2_withForecasts 0 = .ok (.lload_n 1, 1) := by decide +kernel
theorem dX2_withForecasts_1 : decode cX2_withForecasts 1 = .ok (.lstore_n 3, 1) := by decide +kernel
theorem dX2_withForecasts_2 : decode cX2_withForecasts 2 = .ok (.iconst 0, 1) := by decide +kernel
theorem dX2_withForecasts_3 : decode cX2_withForecasts 3 = .ok (.istore 5, 2) := by decide +kernel
theorem dX2_withForecasts_5 : decode cX2_withForecasts 5 = .ok (.iload 5, 2) := by decide +kernel
theorem dX2_withForecasts_7 : decode cX2_withForecasts 7 = .ok (.iconst 4, 1) := by decide +kernel
theorem dX2_withForecasts_8 : decode cX2_withForecasts 8 = .ok (.if_icmp .ge 44, 3) := by decide +kernel
theorem dX2_withForecasts_11 : decode cX2_withForecasts 11 = .ok (.aload_n 0, 1) := by decide +kernel
theorem dX2_withForecasts_12 : decode cX2_withForecasts 12 = .ok (.iconst 0, 1) := by decide +kernel
theorem dX2_withForecasts_13 : decode cX2_withForecasts 13 = .ok (.iload 5, 2) := by decide +kernel
theorem dX2_withForecasts_15 : decode cX2_withForecasts 15 = .ok (.invokevirtual 170, 3) := by decide +kernel
theorem dX2_withForecasts_18 : decode cX2_withForecasts 18 = .ok (.iconst 0, 1) := by decide +kernel
theorem dX2_withForecasts_19 : decode cX2_withForecasts 19 = .ok (.istore 6, 2) := by decide +kernel
theorem dX2_withForecasts_21 : decode cX2_withForecasts 21 = .ok (.iload 6, 2) := by decide +kernel
theorem dX2_withForecasts_23 : decode cX2_withForecasts 23 = .ok (.iconst 3, 1) := by decide +kernel
theorem dX2_withForecasts_24 : decode cX2_withForecasts 24 = .ok (.if_icmp .ge 22, 3) := by decide +kernel
theorem dX2_withForecasts_27 : decode cX2_withForecasts 27 = .ok (.lload_n 3, 1) := by decide +kernel
theorem dX2_withForecasts_28 : decode cX2_withForecasts 28 = .ok (.aload_n 0, 1) := by decide +kernel
theorem dX2_withForecasts_29 : decode cX2_withForecasts 29 = .ok (.iconst 0, 1) := by decide +kernel
theorem dX2_withForecasts_30 : decode cX2_withForecasts 30 = .ok (.iload 6, 2) := by decide +kernel
theorem dX2_withForecasts_32 : decode cX2_withForecasts 32 = .ok (.invokevirtual 174, 3) := by decide +kernel
theorem dX2_withForecasts_35 : decode cX2_withForecasts 35 = .ok (.i2l, 1) := by decide +kernel
theorem dX2_withForecasts_36 : decode cX2_withForecasts 36 = .ok (.invokestatic 190, 3) := by decide +kernel
theorem dX2_withForecasts_39 : decode cX2_withForecasts 39 = .ok (.lstore_n 3, 1) := by decide +kernel
theorem dX2_withForecasts_40 : decode cX2_withForecasts 40 = .ok (.iinc 6 1, 3) := by decide +kernel
theorem dX2_withForecasts_43 : decode cX2_withForecasts 43 = .ok (.goto (-22), 3) := by decide +kernel
theorem dX2_withForecasts_46 : decode cX2_withForecasts 46 = .ok (.iinc 5 1, 3) := by decide +kernel
theorem dX2_withForecasts_49 : decode cX2_withForecasts 49 = .ok (.goto (-44), 3) := by decide +kernel
theorem dX2_withForecasts_52 : decode cX2_withForecasts 52 = .ok (.lload_n 3, 1) := by decide +kernel
theorem dX2_withForecasts_53 : decode cX2_withForecasts 53 = .ok (.lreturn, 1) := by decide +kernel
theorem dX2_bitsOf_0 : decode cX2_bitsOf 0 = .ok (.dload_n 0, 1) := by decide +kernel
theorem dX2_bitsOf_1 : decode cX2_bitsOf 1 = .ok (.dstore_n 2, 1) := by decide +kernel
theorem dX2_bitsOf_2 : decode cX2_bitsOf 2 = .ok (.ldc2_w 236, 3) := by decide +kernel
theorem dX2_bitsOf_5 : decode cX2_bitsOf 5 = .ok (.lstore 4, 2) := by decide +kernel
theorem dX2_bitsOf_7 : decode cX2_bitsOf 7 = .ok (.iconst 0, 1) := by decide +kernel
theorem dX2_bitsOf_8 : decode cX2_bitsOf 8 = .ok (.istore 6, 2) := by decide +kernel
theorem dX2_bitsOf_10 : decode cX2_bitsOf 10 = .ok (.iload 6, 2) := by decide +kernel
theorem dX2_bitsOf_12 : decode cX2_bitsOf 12 = .ok (.sipush 1023, 3) := by decide +kernel
theorem dX2_bitsOf_15 : decode cX2_bitsOf 15 = .ok (.if_icmp .ge 29, 3) := by decide +kernel
theorem dX2_bitsOf_18 : decode cX2_bitsOf 18 = .ok (.dload_n 2, 1) := by decide +kernel
theorem dX2_bitsOf_19 : decode cX2_bitsOf 19 = .ok (.ldc2_w 238, 3) := by decide +kernel
theorem dX2_bitsOf_22 : decode cX2_bitsOf 22 = .ok (.dcmp .l, 1) := by decide +kernel
theorem dX2_bitsOf_23 : decode cX2_bitsOf 23 = .ok (.ifCond .lt 21, 3) := by decide +kernel
theorem dX2_bitsOf_26 : decode cX2_bitsOf 26 = .ok (.dload_n 2, 1) := by decide +kernel
theorem dX2_bitsOf_27 : decode cX2_bitsOf 27 = .ok (.ldc2_w 238, 3) := by decide +kernel
theorem dX2_bitsOf_30 : decode cX2_bitsOf 30 = .ok (.ddiv, 1) := by decide +kernel
theorem dX2_bitsOf_31 : decode cX2_bitsOf 31 = .ok (.dstore_n 2, 1) := by decide +kernel
theorem dX2_bitsOf_32 : decode cX2_bitsOf 32 = .ok (.lload 4, 2) := by decide +kernel
theorem dX2_bitsOf_34 : decode cX2_bitsOf 34 = .ok (.lconst 1, 1) := by decide +kernel
theorem dX2_bitsOf_35 : decode cX2_bitsOf 35 = .ok (.ladd, 1) := by decide +kernel
theorem dX2_bitsOf_36 : decode cX2_bitsOf 36 = .ok (.lstore 4, 2) := by decide +kernel
theorem dX2_bitsOf_38 : decode cX2_bitsOf 38 = .ok (.iinc 6 1, 3) := by decide +kernel
theorem dX2_bitsOf_41 : decode cX2_bitsOf 41 = .ok (.goto (-31), 3) := by decide +kernel
theorem dX2_bitsOf_44 : decode cX2_bitsOf 44 = .ok (.lload 4, 2) := by decide +kernel
theorem dX2_bitsOf_46 : decode cX2_bitsOf 46 = .ok (.bipush 52, 2) := by decide +kernel
theorem dX2_bitsOf_48 : decode cX2_bitsOf 48 = .ok (.lshl, 1) := by decide +kernel
theorem dX2_bitsOf_49 : decode cX2_bitsOf 49 = .ok (.dload_n 2, 1) := by decide +kernel
theorem dX2_bitsOf_50 : decode cX2_bitsOf 50 = .ok (.dconst 1, 1) := by decide +kernel
theorem dX2_bitsOf_51 : decode cX2_bitsOf 51 = .ok (.dsub, 1) := by decide +kernel
theorem dX2_bitsOf_52 : decode cX2_bitsOf 52 = .ok (.ldc2_w 240, 3) := by decide +kernel
theorem dX2_bitsOf_55 : decode cX2_bitsOf 55 = .ok (.dmul, 1) := by decide +kernel
theorem dX2_bitsOf_56 : decode cX2_bitsOf 56 = .ok (.d2l, 1) := by decide +kernel
theorem dX2_bitsOf_57 : decode cX2_bitsOf 57 = .ok (.ladd, 1) := by decide +kernel
theorem dX2_bitsOf_58 : decode cX2_bitsOf 58 = .ok (.lreturn, 1) := by decide +kernel
end
section
theorem dJ6_bitCount_0f7a4_0 : decode cJ6_bitCount_0f7a4 0 = .ok (.iload_n 0, 1) := by decide +kernel
theorem dJ6_bitCount_0f7a4_1 : decode cJ6_bitCount_0f7a4 1 = .ok (.iload_n 0, 1) := by decide +kernel
theorem dJ6_bitCount_0f7a4_2 : decode cJ6_bitCount_0f7a4 2 = .ok (.iconst 1, 1) := by decide +kernel
theorem dJ6_bitCount_0f7a4_3 : decode cJ6_bitCount_0f7a4 3 = .ok (.iushr, 1) := by decide +kernel
theorem dJ6_bitCount_0f7a4_4 : decode cJ6_bitCount_0f7a4 4 = .ok (.ldc_w 265, 3) := by decide +kernel
theorem dJ6_bitCount_0f7a4_7 : decode cJ6_bitCount_0f7a4 7 = .ok (.iand, 1) := by decide +kernel
theorem dJ6_bitCount_0f7a4_8 : decode cJ6_bitCount_0f7a4 8 = .ok (.isub, 1) := by decide +kernel
theorem dJ6_bitCount_0f7a4_9 : decode cJ6_bitCount_0f7a4 9 = .ok (.istore_n 0, 1) := by decide +kernel
theorem dJ6_bitCount_0f7a4_10 : decode cJ6_bitCount_0f7a4 10 = .ok (.iload_n 0, 1) := by decide +kernel
theorem dJ6_bitCount_0f7a4_11 : decode cJ6_bitCount_0f7a4 11 = .ok (.ldc_w 266, 3) := by decide +kernel
theorem dJ6_bitCount_0f7a4_14 : decode cJ6_bitCount_0f7a4 14 = .ok (.iand, 1) := by decide +kernel
theorem dJ6_bitCount_0f7a4_15 : decode cJ6_bitCount_0f7a4 15 = .ok (.iload_n 0, 1) := by decide +kernel
theorem dJ6_bitCount_0f7a4_16 : decode cJ6_bitCount_0f7a4 16 = .ok (.iconst 2, 1) := by decide +kernel
theorem dJ6_bitCount_0f7a4_17 : decode cJ6_bitCount_0f7a4 17 = .ok (.iushr, 1) := by decide +kernel
theorem dJ6_bitCount_0f7a4_18 : decode cJ6_bitCount_0f7a4 18 = .ok (.ldc_w 266, 3) := by decide +kernel
theorem dJ6_bitCount_0f7a4_21 : decode cJ6_bitCount_0f7a4 21 = .ok (.iand, 1) := by decide +kernel
theorem dJ6_bitCount_0f7a4_22 : decode cJ6_bitCount_0f7a4 22 = .ok (.iadd, 1) := by decide +kernel
theorem dJ6_bitCount_0f7a4_23 : decode cJ6_bitCount_0f7a4 23 = .ok (.istore_n 0, 1) := by decide +kernel
theorem dJ6_bitCount_0f7a4_24 : decode cJ6_bitCount_0f7a4 24 = .ok (.iload_n 0, 1) := by decide +kernel
theorem dJ6_bitCount_0f7a4_25 : decode cJ6_bitCount_0f7a4 25 = .ok (.iload_n 0, 1) := by decide +kernel
theorem dJ6_bitCount_0f7a4_26 : decode cJ6_bitCount_0f7a4 26 = .ok (.iconst 4, 1) := by decide +kernel
theorem dJ6_bitCount_0f7a4_27 : decode cJ6_bitCount_0f7a4 27 = .ok (.iushr, 1) := by decide +kernel
theorem dJ6_bitCount_0f7a4_28 : decode cJ6_bitCount_0f7a4 28 = .ok (.iadd, 1) := by decide +kernel
theorem dJ6_bitCount_0f7a4_29 : decode cJ6_bitCount_0f7a4 29 = .ok (.ldc_w 267, 3) := by decide +kernel
theorem dJ6_bitCount_0f7a4_32 : decode cJ6_bitCount_0f7a4 32 = .ok (.iand, 1) := by decide +kernel
theorem dJ6_bitCount_0f7a4_33 : decode cJ6_bitCount_0f7a4 33 = .ok (.istore_n 0, 1) := by decide +kernel
theorem dJ6_bitCount_0f7a4_34 : decode cJ6_bitCount_0f7a4 34 = .ok (.iload_n 0, 1) := by decide +kernel
theorem dJ6_bitCount_0f7a4_35 : decode cJ6_bitCount_0f7a4 35 = .ok (.iload_n 0, 1) := by decide +kernel
theorem dJ6_bitCount_0f7a4_36 : decode cJ6_bitCount_0f7a4 36 = .ok (.bipush 8, 2) := by decide +kernel
theorem dJ6_bitCount_0f7a4_38 : decode cJ6_bitCount_0f7a4 38 = .ok (.iushr, 1) := by decide +kernel
theorem dJ6_bitCount_0f7a4_39 : decode cJ6_bitCount_0f7a4 39 = .ok (.iadd, 1) := by decide +kernel
theorem dJ6_bitCount_0f7a4_40 : decode cJ6_bitCount_0f7a4 40 = .ok (.istore_n 0, 1) := by decide +kernel
theorem dJ6_bitCount_0f7a4_41 : decode cJ6_bitCount_0f7a4 41 = .ok (.iload_n 0, 1) := by decide +kernel
theorem dJ6_bitCount_0f7a4_42 : decode cJ6_bitCount_0f7a4 42 = .ok (.iload_n 0, 1) := by decide +kernel
theorem dJ6_bitCount_0f7a4_43 : decode cJ6_bitCount_0f7a4 43 = .ok (.bipush 16, 2) := by decide +kernel
theorem dJ6_bitCount_0f7a4_45 : decode cJ6_bitCount_0f7a4 45 = .ok (.iushr, 1) := by decide +kernel
theorem dJ6_bitCount_0f7a4_46 : decode cJ6_bitCount_0f7a4 46 = .ok (.iadd, 1) := by decide +kernel
theorem dJ6_bitCount_0f7a4_47 : decode cJ6_bitCount_0f7a4 47 = .ok (.istore_n 0, 1) := by decide +kernel
theorem dJ6_bitCount_0f7a4_48 : decode cJ6_bitCount_0f7a4 48 = .ok (.iload_n 0, 1) := by decide +kernel
theorem dJ6_bitCount_0f7a4_49 : decode cJ6_bitCount_0f7a4 49 = .ok (.bipush 63, 2) := by decide +kernel
theorem dJ6_bitCount_0f7a4_51 : decode cJ6_bitCount_0f7a4 51 = .ok (.iand, 1) := by decide +kernel
theorem dJ6_bitCount_0f7a4_52 : decode cJ6_bitCount_0f7a4 52 = .ok (.ireturn, 1) := by decide +kernel
theorem dJ9_max_7cf53_0 : decode cJ9_max_7cf53 0 = .ok (.iload_n 0, 1) := by decide +kernel
theorem dJ9_max_7cf53_1 : decode cJ9_max_7cf53 1 = .ok (.iload_n 1, 1) := by decide +kernel
theorem dJ9_max_7cf53_2 : decode cJ9_max_7cf53 2 = .ok (.if_icmp .lt 7, 3) := by decide +kernel
theorem dJ9_max_7cf53_5 : decode cJ9_max_7cf53 5 = .ok (.iload_n 0, 1) := by decide +kernel
theorem dJ9_max_7cf53_6 : decode cJ9_max_7cf53 6 = .ok (.goto 4, 3) := by decide +kernel
theorem dJ9_max_7cf53_9 : decode cJ9_max_7cf53 9 = .ok (.iload_n 1, 1) := by decide +kernel
theorem dJ9_max_7cf53_10 : decode cJ9_max_7cf53 10 = .ok (.ireturn, 1) := by decide +kernel
theorem dJ9_min_7cf53_0 : decode cJ9_min_7cf53 0 = .ok (.iload_n 0, 1) := by decide +kernel
theorem dJ9_min_7cf53_1 : decode cJ9_min_7cf53 1 = .ok (.iload_n 1, 1) := by decide +kernel
theorem dJ9_min_7cf53_2 : decode cJ9_min_7cf53 2 = .ok (.if_icmp .gt 7, 3) := by decide +kernel
theorem dJ9_min_7cf53_5 : decode cJ9_min_7cf53 5 = .ok (.iload_n 0, 1) := by decide +kernel
theorem dJ9_min_7cf53_6 : decode cJ9_min_7cf53 6 = .ok (.goto 4, 3) := by decide +kernel
theorem dJ9_min_7cf53_9 : decode cJ9_min_7cf53 9 = .ok (.iload_n 1, 1) := by decide +kernel
theorem dJ9_min_7cf53_10 : decode cJ9_min_7cf53 10 = .ok (.ireturn, 1) := by decide +kernel
theorem dJ7_fill_53178_0 : decode cJ7_fill_53178 0 = .ok (.iconst 0, 1) := by decide +kernel
theorem dJ7_fill_53178_1 : decode cJ7_fill_53178 1 = .ok (.istore_n 2, 1) := by decide +kernel
theorem dJ7_fill_53178_2 : decode cJ7_fill_53178 2 = .ok (.aload_n 0, 1) := by decide +kernel
theorem dJ7_fill_53178_3 : decode cJ7_fill_53178 3 = .ok (.arraylength, 1) := by decide +kernel
theorem dJ7_fill_53178_4 : decode cJ7_fill_53178 4 = .ok (.istore_n 3, 1) := by decide +kernel
theorem dJ7_fill_53178_5 : decode cJ7_fill_53178 5 = .ok (.iload_n 2, 1) := by decide +kernel
theorem dJ7_fill_53178_6 : decode cJ7_fill_53178 6 = .ok (.iload_n 3, 1) := by decide +kernel
theorem dJ7_fill_53178_7 : decode cJ7_fill_53178 7 = .ok (.if_icmp .ge 13, 3) := by decide +kernel
theorem dJ7_fill_53178_10 : decode cJ7_fill_53178 10 = .ok (.aload_n 0, 1) := by decide +kernel
theorem dJ7_fill_53178_11 : decode cJ7_fill_53178 11 = .ok (.iload_n 2, 1) := by decide +kernel
theorem dJ7_fill_53178_12 : decode cJ7_fill_53178 12 = .ok (.iload_n 1, 1) := by decide +kernel
theorem dJ7_fill_53178_13 : decode cJ7_fill_53178 13 = .ok (.iastore, 1) := by decide +kernel
theorem dJ7_fill_53178_14 : decode cJ7_fill_53178 14 = .ok (.iinc 2 1, 3) := by decide +kernel
theorem dJ7_fill_53178_17 : decode cJ7_fill_53178 17 = .ok (.goto (-12), 3) := by decide +kernel
theorem dJ7_fill_53178_20 : decode cJ7_fill_53178 20 = .ok (.return_, 1) := by decide +kernel
end
section
abbrev vwCl : List vw_C := [(RX0, TX0, 4), (RX1, TX1, 17), (RX2, TX2, 7)]
/-! ===== pictures of worlds by their shape: a cell is an int array, an object, an array of references, or a long array ===== -/
abbrev gF : Type := Nat ⊕ Option Bool
abbrev gC : Type := Nat ⊕ ((Nat × List gF) ⊕ (List (Option Nat) ⊕ Nat))
abbrev gG : Type := va_G × (ClassId × (ClassId × ClassId))
abbrev gM : Type := Nat → Nat → Int32
abbrev gN : Type := Nat → Nat → Int64
def g_fld (q : Nat → Nat) (f : Nat → Int32) (h : Nat → Int64) (i : Nat) (d : gF) : Value := match d with
  | .inl j => .ref (q j)
  | .inr none => .null
  | .inr (some false) => .int (f i)
  | .inr (some true) => .long (h i)
def g_flds (q : Nat → Nat) (f : Nat → Int32) (h : Nat → Int64) : Nat → List gF → List Value
  | _, [] => []
  | i, d :: ds => g_fld q f h i d :: g_flds q f h (i + 1) ds
def g_cell (G : gG) (q : Nat → Nat) (μ : gM) (ν : gN) (k : Nat) (d : gC) : va_E := match d with
  | .inl n => .inl (G.2.1, n, .inl (μ k))
  | .inr (.inl o) => .inr (o.1, g_flds q (μ k) (ν k) 0 o.2)
  | .inr (.inr (.inl ids)) => .inl (G.2.2.2, ids.length, .inr (.inr (.inr (.inr (fun i => (ids.getD i none).map q)))))
  | .inr (.inr (.inr n)) => .inl (G.2.2.1, n, .inr (.inl (ν k)))
def wd (G : gG) (q : Nat → Nat) (μ : gM) (ν : gN) : Nat → List gC → va_W
  | _, [] => []
  | k, d :: ds => (q k, g_cell G q μ ν k d) :: wd G q μ ν (k + 1) ds
theorem g_flds_get (q : Nat → Nat) (f : Nat → Int32) (h : Nat → Int64) : ∀ (ds : List gF) (b i : Nat), (g_flds q f h b ds)[i]? = (ds[i]?).map (fun d => g_fld q f h (b + i) d) := by
  intro ds
  induction ds with
  | nil => intro b i; simp [g_flds]
  | cons d ds ih =>
    intro b i
    cases i with
    | zero => simp [g_flds]
    | succ i => simp only [g_flds, List.getElem?_cons_succ, ih (b + 1) i]; rw [show b + 1 + i = b + (i + 1) from by omega]
theorem g_flds_len (q : Nat → Nat) (f : Nat → Int32) (h : Nat → Int64) : ∀ (ds : List gF) (b : Nat), (g_flds q f h b ds).length = ds.length := by
  intro ds
  induction ds with
  | nil => intro b; rfl
  | cons d ds ih => intro b; simp [g_flds, ih (b + 1)]
theorem wd_get (G : gG) (q : Nat → Nat) (μ : gM) (ν : gN) : ∀ (sh : List gC) (b k : Nat), (wd G q μ ν b sh)[k]? = (sh[k]?).map (fun d => (q (b + k), g_cell G q μ ν (b + k) d)) := by
  intro sh
  induction sh with
  | nil => intro b k; simp [wd]
  | cons d ds ih =>
    intro b k
    cases k with
    | zero => simp [wd]
    | succ k => simp only [wd, List.getElem?_cons_succ, ih (b + 1) k]; rw [show b + 1 + k = b + (k + 1) from by omega]
theorem wd_at {G : gG} {q : Nat → Nat} {μ : gM} {ν : gN} {sh : List gC} {k : Nat} {d : gC} (h : sh[k]? = some d) : (wd G q μ ν 0 sh)[k]? = some (q k, g_cell G q μ ν k d) := by
  rw [wd_get, h]; simp
theorem wd_of {G : gG} {q : Nat → Nat} {μ : gM} {ν : gN} {sh : List gC} {k : Nat} {z : Nat × va_E} (h : (wd G q μ ν 0 sh)[k]? = some z) : ∃ d, sh[k]? = some d ∧ z = (q k, g_cell G q μ ν k d) := by
  rw [wd_get] at h
  cases hd : sh[k]? with
  | none => rw [hd] at h; simp at h
  | some d => rw [hd] at h; simp at h; exact ⟨d, rfl, h.symm⟩
theorem g_lt {α : Type} {l : List α} {k : Nat} {d : α} (h : l[k]? = some d) : k < l.length := (List.getElem?_eq_some_iff.mp h).1
/-- the addresses are apart, and allowed -/
def gD (A : Nat → Prop) (q : Nat → Nat) (n : Nat) : Prop := (∀ i j, i < n → j < n → q i = q j → i = j) ∧ ∀ k, k < n → A (q k)
def gA (q : Nat → Nat) (n sz : Nat) : Nat → Prop := fun a => (∃ k, k < n ∧ a = q k) ∨ sz ≤ a
theorem gD_wd {A : Nat → Prop} {q : Nat → Nat} {sh : List gC} (h : gD A q sh.length) (G : gG) (μ : gM) (ν : gN) : va_D A (wd G q μ ν 0 sh) := by
  refine ⟨fun i j x y hi hj hxy => ?_, fun k x hk => ?_⟩
  · obtain ⟨d, h1, rfl⟩ := wd_of hi
    obtain ⟨d', h2, rfl⟩ := wd_of hj
    exact h.1 i j (g_lt h1) (g_lt h2) hxy
  · obtain ⟨d, h1, rfl⟩ := wd_of hk
    exact h.2 k (g_lt h1)
theorem gD_of {A B : Nat → Prop} {q : Nat → Nat} {sh : List gC} {G : gG} {μ : gM} {ν : gN} (h : va_D A (wd G q μ ν 0 sh)) (hB : ∀ k, k < sh.length → B (q k)) : gD B q sh.length := by
  refine ⟨fun i j hi hj hxy => ?_, hB⟩
  exact h.1 i j _ _ (wd_at (List.getElem?_eq_getElem hi)) (wd_at (List.getElem?_eq_getElem hj)) hxy
def g_set (μ : gM) (k : Nat) (f : Nat → Int32) : gM := fun j => if j = k then f else μ j
def g_setN (ν : gN) (k : Nat) (f : Nat → Int64) : gN := fun j => if j = k then f else ν j
theorem g_set_s {μ : gM} {k : Nat} {f : Nat → Int32} : g_set μ k f k = f := if_pos rfl
theorem g_set_n {μ : gM} {k j : Nat} {f : Nat → Int32} (h : j ≠ k) : g_set μ k f j = μ j := if_neg h
theorem g_setN_s {ν : gN} {k : Nat} {f : Nat → Int64} : g_setN ν k f k = f := if_pos rfl
theorem g_setN_n {ν : gN} {k j : Nat} {f : Nat → Int64} (h : j ≠ k) : g_setN ν k f j = ν j := if_neg h
theorem g_cell_cong {G : gG} {q : Nat → Nat} {μ μ' : gM} {ν ν' : gN} {k : Nat} {d : gC} (h : μ' k = μ k) (h2 : ν' k = ν k) : g_cell G q μ' ν' k d = g_cell G q μ ν k d := by
  unfold g_cell; rw [h, h2]
/-- one cell's new content -/
theorem wd_set {G : gG} {q : Nat → Nat} {μ μ' : gM} {ν ν' : gN} {sh : List gC} {k : Nat} {d : gC} (h : sh[k]? = some d) (ho : ∀ j, j ≠ k → μ' j = μ j ∧ ν' j = ν j) : (wd G q μ ν 0 sh).set k (q k, g_cell G q μ' ν' k d) = wd G q μ' ν' 0 sh := by
  apply List.ext_getElem?
  intro j
  rw [List.getElem?_set]
  by_cases hj : k = j
  · subst hj
    rw [if_pos rfl, wd_at h, if_pos]
    have := g_lt (wd_at (G := G) (q := q) (μ := μ) (ν := ν) h)
    exact this
  · rw [if_neg hj, wd_get, wd_get]
    cases hs : sh[j]? with
    | none => rfl
    | some d' =>
      have h9 := ho j (fun e => hj e.symm)
      simp only [Option.map_some, Nat.zero_add]
      rw [g_cell_cong h9.1 h9.2]
theorem g_flds_set (q : Nat → Nat) (f : Nat → Int32) (h : Nat → Int64) (x : Int32) : ∀ (ds : List gF) (b i : Nat), ds[i]? = some (.inr (some false)) → (g_flds q f h b ds).set i (.int x) = g_flds q (upd f (b + i) x) h b ds := by
  intro ds
  induction ds with
  | nil => intro b i hi; simp at hi
  | cons d ds ih =>
    intro b i hi
    have other : ∀ (e : gF) (c : Nat), c ≠ b + i → g_fld q f h c e = g_fld q (upd f (b + i) x) h c e := by
      intro e c hc
      unfold g_fld
      rcases e with j | (_ | (_ | _)) <;> simp [upd, hc]
    cases i with
    | zero =>
      simp only [List.getElem?_cons_zero, Option.some.injEq] at hi
      subst hi
      simp only [g_flds, List.set_cons_zero]
      congr 1
      · simp [g_fld, upd]
      · have : ∀ (es : List gF) (c : Nat), b < c → g_flds q f h c es = g_flds q (upd f (b + 0) x) h c es := by
          intro es
          induction es with
          | nil => intro c _; rfl
          | cons e es ih2 =>
            intro c hc
            simp only [g_flds]
            rw [other e c (by omega), ih2 (c + 1) (by omega)]
        exact this ds (b + 1) (by omega)
    | succ i =>
      simp only [List.getElem?_cons_succ] at hi
      simp only [g_flds, List.set_cons_succ]
      rw [ih (b + 1) i hi, show b + 1 + i = b + (i + 1) from by omega, other d b (by omega)]
theorem g_flds_setN (q : Nat → Nat) (f : Nat → Int32) (h : Nat → Int64) (x : Int64) : ∀ (ds : List gF) (b i : Nat), ds[i]? = some (.inr (some true)) → (g_flds q f h b ds).set i (.long x) = g_flds q f (vp_updL h (b + i) x) b ds := by
  intro ds
  induction ds with
  | nil => intro b i hi; simp at hi
  | cons d ds ih =>
    intro b i hi
    have other : ∀ (e : gF) (c : Nat), c ≠ b + i → g_fld q f h c e = g_fld q f (vp_updL h (b + i) x) c e := by
      intro e c hc
      unfold g_fld
      rcases e with j | (_ | (_ | _)) <;> simp [vp_updL, hc]
    cases i with
    | zero =>
      simp only [List.getElem?_cons_zero, Option.some.injEq] at hi
      subst hi
      simp only [g_flds, List.set_cons_zero]
      congr 1
      · simp [g_fld, vp_updL]
      · have : ∀ (es : List gF) (c : Nat), b < c → g_flds q f h c es = g_flds q f (vp_updL h (b + 0) x) c es := by
          intro es
          induction es with
          | nil => intro c _; rfl
          | cons e es ih2 =>
            intro c hc
            simp only [g_flds]
            rw [other e c (by omega), ih2 (c + 1) (by omega)]
        exact this ds (b + 1) (by omega)
    | succ i =>
      simp only [List.getElem?_cons_succ] at hi
      simp only [g_flds, List.set_cons_succ]
      rw [ih (b + 1) i hi, show b + 1 + i = b + (i + 1) from by omega, other d b (by omega)]
/-! loops as functions; what stands behind g_let and run is not unfolded by reduction -/
noncomputable def g_let {α β : Sort _} (x : α) (f : α → β) : β := Classical.choose (p := fun y => y = f x) ⟨f x, rfl⟩
theorem g_let_def {α β : Sort _} (x : α) (f : α → β) : g_let x f = f x := Classical.choose_spec (p := fun y => y = f x) ⟨f x, rfl⟩
def runC {S : Type} (f : S → Bool × S) : Nat → S → S
  | 0, z => z
  | n + 1, z => if (f z).1 = true then runC f n (f z).2 else (f z).2
noncomputable def run {S : Type} (f : S → Bool × S) (n : Nat) (z : S) : S := g_let (runC f n z) (fun y => y)
theorem run_def {S : Type} (f : S → Bool × S) (n : Nat) (z : S) : run f n z = runC f n z := g_let_def _ _
def rOk {S : Type} (f : S → Bool × S) (ok : S → Prop) : Nat → S → Prop
  | 0, _ => False
  | n + 1, z => ok z ∧ ((f z).1 = true → rOk f ok n (f z).2)
theorem run_t {S : Type} {f : S → Bool × S} {n : Nat} {z z' : S} (h : f z = (true, z')) : run f (n + 1) z = run f n z' := by
  rw [run_def, run_def]; simp [runC, h]
theorem run_f {S : Type} {f : S → Bool × S} {n : Nat} {z z' : S} (h : f z = (false, z')) : run f (n + 1) z = z' := by
  rw [run_def]; simp [runC, h]
theorem rOk_1 {S : Type} {f : S → Bool × S} {ok : S → Prop} {n : Nat} {z : S} (w : rOk f ok (n + 1) z) : ok z := w.1
theorem rOk_2 {S : Type} {f : S → Bool × S} {ok : S → Prop} {n : Nat} {z : S} (w : rOk f ok (n + 1) z) : (f z).1 = true → rOk f ok n (f z).2 := w.2
theorem rOk_0 {S : Type} {f : S → Bool × S} {ok : S → Prop} {z : S} {P : Prop} (w : rOk f ok 0 z) : P := False.elim w
theorem rOk_t {S : Type} {f : S → Bool × S} {ok : S → Prop} {n : Nat} {z z' : S} (w : (f z).1 = true → rOk f ok n (f z).2) (h : f z = (true, z')) : rOk f ok n z' := by
  rw [h] at w; exact w rfl
theorem g_let_eq {α : Sort _} {β : Sort _} {x z : α} {f : α → β} (h : z = x) : g_let x f = f z := by subst h; exact g_let_def _ _
theorem g_let_p {α : Sort _} {x z : α} {f : α → Prop} (h : z = x) (w : g_let x f) : f z := by subst h; rw [g_let_def] at w; exact w
theorem g_ip {c A B : Prop} [Decidable c] (h : c) (w : if c then A else B) : A := by rw [if_pos h] at w; exact w
theorem g_in {c A B : Prop} [Decidable c] (h : ¬ c) (w : if c then A else B) : B := by rw [if_neg h] at w; exact w
/-! ===== the judgement over pictures ===== -/
abbrev gT (G : gG) : List (ClassId × FieldType) := [(G.2.1, .int), (G.2.2.1, .long), (G.2.2.2, .object "HintedPages$Store")]
def gK (G : gG) (s : State) : Prop := va_K G.1 vwCl (gT G) s
section XJ
variable {p : Program} {l : Launch} {e : Env} {R : Room} {s : State} {m : MethodId} {args : Array Value} {below : List Frame} {meth : Method} {c : Code} {G : gG} {A : Nat → Prop} {nL : Nat} {Q : State → Prop} {cells slots : Nat} {sh : List gC} {q : Nat → Nat} {μ μ' : gM} {ν ν' : gN} {lv lv' : List (Nat × Value)} {st : List Value} {pc : Nat}
variable {cc : ByteArray} {own : String} {Ts : List Cond}
def xJ (p : Program) (l : Launch) (e : Env) (R : Room) (s : State) (m : MethodId) (args : Array Value) (below : List Frame) (meth : Method) (c : Code) (G : gG) (A : Nat → Prop) (nL : Nat) (Q : State → Prop) (cells slots : Nat) (sh : List gC) (q : Nat → Nat) (μ : gM) (ν : gN) (lv : List (Nat × Value)) (st : List Value) (pc : Nat) : Prop :=
  ∀ (H : Heap) (locs : List Loc) (ls : Array Slot), va_P G.1 vwCl (wd G q μ ν 0 sh) H → va_S A s.heap H locs → lv_has ls nL lv → W p l e R s m args below meth c H locs cells slots Q (F0 m pc ls st)
def xC (p : Program) (s : State) (m : MethodId) (args : Array Value) (meth : Method) (c : Code) (G : gG) (A : Nat → Prop) (nL : Nat) (cc : ByteArray) (own : String) (Ts : List Cond) : Prop :=
  p.tables.exec = Jvm.exec ∧ c.code = cc ∧ meth.locks = false ∧ c.maxLocals = nL ∧ s.vm.findClass own = some m.cls ∧ (∀ w ∈ Ts, w.before args s = true) ∧ gK G s ∧ (∀ a, s.heap.size ≤ a → A a)
theorem x_iconst (C : xC p s m args meth c G A nL cc own Ts) {n : Int} {v : Int32} (d : decode cc pc = .ok (.iconst n, 1)) (hv : Int32.ofInt n = v) (k : xJ p l e R s m args below meth c G A nL Q cells slots sh q μ ν lv (.int v :: st) (pc + 1)) : xJ p l e R s m args below meth c G A nL Q cells slots sh q μ ν lv st pc := fun H locs ls hP hS hl => lv_iconst C.1 C.2.1 d hv (k H locs ls hP hS hl)
theorem x_bipush (C : xC p s m args meth c G A nL cc own Ts) {n : Int} {v : Int32} (d : decode cc pc = .ok (.bipush n, 2)) (hv : (Int8.ofInt n).toInt32 = v) (k : xJ p l e R s m args below meth c G A nL Q cells slots sh q μ ν lv (.int v :: st) (pc + 2)) : xJ p l e R s m args below meth c G A nL Q cells slots sh q μ ν lv st pc := fun H locs ls hP hS hl => lv_bipush C.1 C.2.1 d hv (k H locs ls hP hS hl)
theorem x_sipush (C : xC p s m args meth c G A nL cc own Ts) {n : Int} {v : Int32} (d : decode cc pc = .ok (.sipush n, 3)) (hv : (Int16.ofInt n).toInt32 = v) (k : xJ p l e R s m args below meth c G A nL Q cells slots sh q μ ν lv (.int v :: st) (pc + 3)) : xJ p l e R s m args below meth c G A nL Q cells slots sh q μ ν lv st pc := fun H locs ls hP hS hl => lv_sipush C.1 C.2.1 d hv (k H locs ls hP hS hl)
theorem x_lconst (C : xC p s m args meth c G A nL cc own Ts) {n : Fin 2} {v : Int64} (d : decode cc pc = .ok (.lconst n, 1)) (hv : Int64.ofNat (n : Nat) = v) (k : xJ p l e R s m args below meth c G A nL Q cells slots sh q μ ν lv (.long v :: st) (pc + 1)) : xJ p l e R s m args below meth c G A nL Q cells slots sh q μ ν lv st pc := fun H locs ls hP hS hl => lv_lconst C.1 C.2.1 d hv (k H locs ls hP hS hl)
theorem x_iload_n (C : xC p s m args meth c G A nL cc own Ts) {j : Fin 4} {i : Nat} {x : Int32} (d : decode cc pc = .ok (.iload_n j, 1)) (hi : (j : Nat) = i) (a : Nat) (ha : lv[a]? = some (i, .int x)) (k : xJ p l e R s m args below meth c G A nL Q cells slots sh q μ ν lv (.int x :: st) (pc + 1)) : xJ p l e R s m args below meth c G A nL Q cells slots sh q μ ν lv st pc := fun H locs ls hP hS hl => lv_iload_n C.1 C.2.1 d hi (lv_at hl a ha) (k H locs ls hP hS hl)
theorem x_iload (C : xC p s m args meth c G A nL cc own Ts) {i : Nat} {x : Int32} (d : decode cc pc = .ok (.iload i, 2)) (a : Nat) (ha : lv[a]? = some (i, .int x)) (k : xJ p l e R s m args below meth c G A nL Q cells slots sh q μ ν lv (.int x :: st) (pc + 2)) : xJ p l e R s m args below meth c G A nL Q cells slots sh q μ ν lv st pc := fun H locs ls hP hS hl => lv_iload C.1 C.2.1 d (lv_at hl a ha) (k H locs ls hP hS hl)
theorem x_lload_n (C : xC p s m args meth c G A nL cc own Ts) {j : Fin 4} {i : Nat} {x : Int64} (d : decode cc pc = .ok (.lload_n j, 1)) (hi : (j : Nat) = i) (a : Nat) (ha : lv[a]? = some (i, .long x)) (k : xJ p l e R s m args below meth c G A nL Q cells slots sh q μ ν lv (.long x :: st) (pc + 1)) : xJ p l e R s m args below meth c G A nL Q cells slots sh q μ ν lv st pc := fun H locs ls hP hS hl => lv_lload_n C.1 C.2.1 d hi (lv_at hl a ha) (k H locs ls hP hS hl)
theorem x_dload_n (C : xC p s m args meth c G A nL cc own Ts) {j : Fin 4} {i : Nat} {x : UInt64} (d : decode cc pc = .ok (.dload_n j, 1)) (hi : (j : Nat) = i) (a : Nat) (ha : lv[a]? = some (i, .double x)) (k : xJ p l e R s m args below meth c G A nL Q cells slots sh q μ ν lv (.double x :: st) (pc + 1)) : xJ p l e R s m args below meth c G A nL Q cells slots sh q μ ν lv st pc := fun H locs ls hP hS hl => lv_dload_n C.1 C.2.1 d hi (lv_at hl a ha) (k H locs ls hP hS hl)
theorem x_aload_n (C : xC p s m args meth c G A nL cc own Ts) {j : Fin 4} {i : Nat} {x : Nat} (d : decode cc pc = .ok (.aload_n j, 1)) (hi : (j : Nat) = i) (a : Nat) (ha : lv[a]? = some (i, .ref x)) (k : xJ p l e R s m args below meth c G A nL Q cells slots sh q μ ν lv (.ref x :: st) (pc + 1)) : xJ p l e R s m args below meth c G A nL Q cells slots sh q μ ν lv st pc := fun H locs ls hP hS hl => lv_aload_n C.1 C.2.1 d hi (lv_at hl a ha) (k H locs ls hP hS hl)
theorem x_istore_n (C : xC p s m args meth c G A nL cc own Ts) {j : Fin 4} {i : Nat} {x : Int32} (d : decode cc pc = .ok (.istore_n j, 1)) (hi : (j : Nat) = i) (hn : i < nL) (ks : List Nat) (hk : lv_pick ((i, Value.int x) :: lv.filter (fun q => !(q.1 == i) && !(q.1 + 1 == i && q.2.category == 2))) ks = lv') (k : xJ p l e R s m args below meth c G A nL Q cells slots sh q μ ν lv' st (pc + 1)) : xJ p l e R s m args below meth c G A nL Q cells slots sh q μ ν lv (.int x :: st) pc := fun H locs ls hP hS hl => lv_istore_n C.1 C.2.1 d hi hl hn rfl (fun ls hl => k H locs ls hP hS (lv_sub hl ks hk))
theorem x_istore (C : xC p s m args meth c G A nL cc own Ts) {i : Nat} {x : Int32} (d : decode cc pc = .ok (.istore i, 2)) (hn : i < nL) (ks : List Nat) (hk : lv_pick ((i, Value.int x) :: lv.filter (fun q => !(q.1 == i) && !(q.1 + 1 == i && q.2.category == 2))) ks = lv') (k : xJ p l e R s m args below meth c G A nL Q cells slots sh q μ ν lv' st (pc + 2)) : xJ p l e R s m args below meth c G A nL Q cells slots sh q μ ν lv (.int x :: st) pc := fun H locs ls hP hS hl => lv_istore C.1 C.2.1 d hl hn rfl (fun ls hl => k H locs ls hP hS (lv_sub hl ks hk))
theorem x_lstore_n (C : xC p s m args meth c G A nL cc own Ts) {j : Fin 4} {i : Nat} {x : Int64} (d : decode cc pc = .ok (.lstore_n j, 1)) (hi : (j : Nat) = i) (hn : i + 1 < nL) (ks : List Nat) (hk : lv_pick ((i, Value.long x) :: lv.filter (fun q => !(q.1 == i) && (!(q.1 == i + 1) && !(q.1 + 1 == i && q.2.category == 2)))) ks = lv') (k : xJ p l e R s m args below meth c G A nL Q cells slots sh q μ ν lv' st (pc + 1)) : xJ p l e R s m args below meth c G A nL Q cells slots sh q μ ν lv (.long x :: st) pc := fun H locs ls hP hS hl => lv_lstore_n C.1 C.2.1 d hi hl hn rfl (fun ls hl => k H locs ls hP hS (lv_sub hl ks hk))
theorem x_dstore_n (C : xC p s m args meth c G A nL cc own Ts) {j : Fin 4} {i : Nat} {x : UInt64} (d : decode cc pc = .ok (.dstore_n j, 1)) (hi : (j : Nat) = i) (hn : i + 1 < nL) (ks : List Nat) (hk : lv_pick ((i, Value.double x) :: lv.filter (fun q => !(q.1 == i) && (!(q.1 == i + 1) && !(q.1 + 1 == i && q.2.category == 2)))) ks = lv') (k : xJ p l e R s m args below meth c G A nL Q cells slots sh q μ ν lv' st (pc + 1)) : xJ p l e R s m args below meth c G A nL Q cells slots sh q μ ν lv (.double x :: st) pc := fun H locs ls hP hS hl => lv_dstore_n C.1 C.2.1 d hi hl hn rfl (fun ls hl => k H locs ls hP hS (lv_sub hl ks hk))
theorem x_iinc (C : xC p s m args meth c G A nL cc own Ts) {i : Nat} {n : Int} {x v : Int32} (d : decode cc pc = .ok (.iinc i n, 3)) (a : Nat) (ha : lv[a]? = some (i, .int x)) (hv : x + Int32.ofInt n = v) (hn : i < nL) (ks : List Nat) (hk : lv_pick ((i, Value.int v) :: lv.filter (fun q => !(q.1 == i) && !(q.1 + 1 == i && q.2.category == 2))) ks = lv') (k : xJ p l e R s m args below meth c G A nL Q cells slots sh q μ ν lv' st (pc + 3)) : xJ p l e R s m args below meth c G A nL Q cells slots sh q μ ν lv st pc := fun H locs ls hP hS hl => lv_iinc C.1 C.2.1 d hl ha hv hn rfl (fun ls hl => k H locs ls hP hS (lv_sub hl ks hk))
theorem x_lv (ks : List Nat) (hk : lv_pick lv ks = lv') (k : xJ p l e R s m args below meth c G A nL Q cells slots sh q μ ν lv' st pc) : xJ p l e R s m args below meth c G A nL Q cells slots sh q μ ν lv st pc := fun H locs ls hP hS hl => k H locs ls hP hS (lv_sub hl ks hk)
theorem x_iadd (C : xC p s m args meth c G A nL cc own Ts) {x y : Int32} (d : decode cc pc = .ok (.iadd, 1)) (k : xJ p l e R s m args below meth c G A nL Q cells slots sh q μ ν lv (.int (x + y) :: st) (pc + 1)) : xJ p l e R s m args below meth c G A nL Q cells slots sh q μ ν lv (.int y :: .int x :: st) pc := fun H locs ls hP hS hl => lv_iadd C.1 C.2.1 d (k H locs ls hP hS hl)
theorem x_isub (C : xC p s m args meth c G A nL cc own Ts) {x y : Int32} (d : decode cc pc = .ok (.isub, 1)) (k : xJ p l e R s m args below meth c G A nL Q cells slots sh q μ ν lv (.int (x - y) :: st) (pc + 1)) : xJ p l e R s m args below meth c G A nL Q cells slots sh q μ ν lv (.int y :: .int x :: st) pc := fun H locs ls hP hS hl => lv_isub C.1 C.2.1 d (k H locs ls hP hS hl)
theorem x_imul (C : xC p s m args meth c G A nL cc own Ts) {x y : Int32} (d : decode cc pc = .ok (.imul, 1)) (k : xJ p l e R s m args below meth c G A nL Q cells slots sh q μ ν lv (.int (x * y) :: st) (pc + 1)) : xJ p l e R s m args below meth c G A nL Q cells slots sh q μ ν lv (.int y :: .int x :: st) pc := fun H locs ls hP hS hl => lv_imul C.1 C.2.1 d (k H locs ls hP hS hl)
theorem x_iand (C : xC p s m args meth c G A nL cc own Ts) {x y : Int32} (d : decode cc pc = .ok (.iand, 1)) (k : xJ p l e R s m args below meth c G A nL Q cells slots sh q μ ν lv (.int (x &&& y) :: st) (pc + 1)) : xJ p l e R s m args below meth c G A nL Q cells slots sh q μ ν lv (.int y :: .int x :: st) pc := fun H locs ls hP hS hl => lv_iand C.1 C.2.1 d (k H locs ls hP hS hl)
theorem x_ior (C : xC p s m args meth c G A nL cc own Ts) {x y : Int32} (d : decode cc pc = .ok (.ior, 1)) (k : xJ p l e R s m args below meth c G A nL Q cells slots sh q μ ν lv (.int (x ||| y) :: st) (pc + 1)) : xJ p l e R s m args below meth c G A nL Q cells slots sh q μ ν lv (.int y :: .int x :: st) pc := fun H locs ls hP hS hl => lv_ior C.1 C.2.1 d (k H locs ls hP hS hl)
theorem x_ishl (C : xC p s m args meth c G A nL cc own Ts) {x y : Int32} (d : decode cc pc = .ok (.ishl, 1)) (k : xJ p l e R s m args below meth c G A nL Q cells slots sh q μ ν lv (.int (x <<< (y &&& 31)) :: st) (pc + 1)) : xJ p l e R s m args below meth c G A nL Q cells slots sh q μ ν lv (.int y :: .int x :: st) pc := fun H locs ls hP hS hl => lv_ishl C.1 C.2.1 d (k H locs ls hP hS hl)
theorem x_ishr (C : xC p s m args meth c G A nL cc own Ts) {x y : Int32} (d : decode cc pc = .ok (.ishr, 1)) (k : xJ p l e R s m args below meth c G A nL Q cells slots sh q μ ν lv (.int (x >>> (y &&& 31)) :: st) (pc + 1)) : xJ p l e R s m args below meth c G A nL Q cells slots sh q μ ν lv (.int y :: .int x :: st) pc := fun H locs ls hP hS hl => lv_ishr C.1 C.2.1 d (k H locs ls hP hS hl)
theorem x_iushr (C : xC p s m args meth c G A nL cc own Ts) {x y v : Int32} (d : decode cc pc = .ok (.iushr, 1)) (hv : (x.toUInt32 >>> (y.toUInt32 &&& Int32.toUInt32 31)).toInt32 = v) (k : xJ p l e R s m args below meth c G A nL Q cells slots sh q μ ν lv (.int v :: st) (pc + 1)) : xJ p l e R s m args below meth c G A nL Q cells slots sh q μ ν lv (.int y :: .int x :: st) pc := fun H locs ls hP hS hl => lv_iushr C.1 C.2.1 d hv (k H locs ls hP hS hl)
theorem x_idiv (C : xC p s m args meth c G A nL cc own Ts) {x y : Int32} (d : decode cc pc = .ok (.idiv, 1)) (hne : ¬ y = 0) (k : xJ p l e R s m args below meth c G A nL Q cells slots sh q μ ν lv (.int (x / y) :: st) (pc + 1)) : xJ p l e R s m args below meth c G A nL Q cells slots sh q μ ν lv (.int y :: .int x :: st) pc := fun H locs ls hP hS hl => lv_idiv C.1 C.2.1 d hne (k H locs ls hP hS hl)
theorem x_irem (C : xC p s m args meth c G A nL cc own Ts) {x y : Int32} (d : decode cc pc = .ok (.irem, 1)) (hne : ¬ y = 0) (k : xJ p l e R s m args below meth c G A nL Q cells slots sh q μ ν lv (.int (x - x / y * y) :: st) (pc + 1)) : xJ p l e R s m args below meth c G A nL Q cells slots sh q μ ν lv (.int y :: .int x :: st) pc := fun H locs ls hP hS hl => lv_irem C.1 C.2.1 d hne (k H locs ls hP hS hl)
theorem x_ladd (C : xC p s m args meth c G A nL cc own Ts) {x y : Int64} (d : decode cc pc = .ok (.ladd, 1)) (k : xJ p l e R s m args below meth c G A nL Q cells slots sh q μ ν lv (.long (x + y) :: st) (pc + 1)) : xJ p l e R s m args below meth c G A nL Q cells slots sh q μ ν lv (.long y :: .long x :: st) pc := fun H locs ls hP hS hl => lv_ladd C.1 C.2.1 d (k H locs ls hP hS hl)
theorem x_lmul (C : xC p s m args meth c G A nL cc own Ts) {x y : Int64} (d : decode cc pc = .ok (.lmul, 1)) (k : xJ p l e R s m args below meth c G A nL Q cells slots sh q μ ν lv (.long (x * y) :: st) (pc + 1)) : xJ p l e R s m args below meth c G A nL Q cells slots sh q μ ν lv (.long y :: .long x :: st) pc := fun H locs ls hP hS hl => lv_lmul C.1 C.2.1 d (k H locs ls hP hS hl)
theorem x_lshl (C : xC p s m args meth c G A nL cc own Ts) {x v : Int64} {y : Int32} (d : decode cc pc = .ok (.lshl, 1)) (hv : x <<< (y.toInt64 &&& 63) = v) (k : xJ p l e R s m args below meth c G A nL Q cells slots sh q μ ν lv (.long v :: st) (pc + 1)) : xJ p l e R s m args below meth c G A nL Q cells slots sh q μ ν lv (.int y :: .long x :: st) pc := fun H locs ls hP hS hl => lv_lshl C.1 C.2.1 d hv (k H locs ls hP hS hl)
theorem x_i2l (C : xC p s m args meth c G A nL cc own Ts) {x : Int32} {v : Int64} (d : decode cc pc = .ok (.i2l, 1)) (hv : x.toInt64 = v) (k : xJ p l e R s m args below meth c G A nL Q cells slots sh q μ ν lv (.long v :: st) (pc + 1)) : xJ p l e R s m args below meth c G A nL Q cells slots sh q μ ν lv (.int x :: st) pc := fun H locs ls hP hS hl => lv_i2l C.1 C.2.1 d hv (k H locs ls hP hS hl)
theorem x_dup (C : xC p s m args meth c G A nL cc own Ts) {v : Value} (d : decode cc pc = .ok (.dup, 1)) (hv : v.category = 1) (k : xJ p l e R s m args below meth c G A nL Q cells slots sh q μ ν lv (v :: v :: st) (pc + 1)) : xJ p l e R s m args below meth c G A nL Q cells slots sh q μ ν lv (v :: st) pc := fun H locs ls hP hS hl => lv_dup C.1 C.2.1 d hv (k H locs ls hP hS hl)
theorem x_pop (C : xC p s m args meth c G A nL cc own Ts) {v : Value} (d : decode cc pc = .ok (.pop, 1)) (hv : v.category = 1) (k : xJ p l e R s m args below meth c G A nL Q cells slots sh q μ ν lv st (pc + 1)) : xJ p l e R s m args below meth c G A nL Q cells slots sh q μ ν lv (v :: st) pc := fun H locs ls hP hS hl => lv_pop C.1 C.2.1 d hv (k H locs ls hP hS hl)
theorem x_goto (C : xC p s m args meth c G A nL cc own Ts) {off : Int} {tgt : Nat} (d : decode cc pc = .ok (.goto off, 3)) (ht : (pc : Int) + off = (tgt : Int)) (k : xJ p l e R s m args below meth c G A nL Q cells slots sh q μ ν lv st tgt) : xJ p l e R s m args below meth c G A nL Q cells slots sh q μ ν lv st pc := fun H locs ls hP hS hl => lv_goto C.1 C.2.1 d ht (k H locs ls hP hS hl)
theorem x_if_eq (C : xC p s m args meth c G A nL cc own Ts) {x : Int32} {off : Int} {tgt : Nat} (d : decode cc pc = .ok (.ifCond .eq off, 3)) (ht : (pc : Int) + off = (tgt : Int)) (kt : x = 0 → xJ p l e R s m args below meth c G A nL Q cells slots sh q μ ν lv st tgt) (kf : ¬ x = 0 → xJ p l e R s m args below meth c G A nL Q cells slots sh q μ ν lv st (pc + 3)) : xJ p l e R s m args below meth c G A nL Q cells slots sh q μ ν lv (.int x :: st) pc := fun H locs ls hP hS hl => lv_if_eq C.1 C.2.1 d ht (fun h => kt h H locs ls hP hS hl) (fun h => kf h H locs ls hP hS hl)
theorem x_icmp_eq (C : xC p s m args meth c G A nL cc own Ts) {x y : Int32} {off : Int} {tgt : Nat} (d : decode cc pc = .ok (.if_icmp .eq off, 3)) (ht : (pc : Int) + off = (tgt : Int)) (kt : x = y → xJ p l e R s m args below meth c G A nL Q cells slots sh q μ ν lv st tgt) (kf : ¬ x = y → xJ p l e R s m args below meth c G A nL Q cells slots sh q μ ν lv st (pc + 3)) : xJ p l e R s m args below meth c G A nL Q cells slots sh q μ ν lv (.int y :: .int x :: st) pc := fun H locs ls hP hS hl => lv_icmp_eq C.1 C.2.1 d ht (fun h => kt h H locs ls hP hS hl) (fun h => kf h H locs ls hP hS hl)
theorem x_if_ne (C : xC p s m args meth c G A nL cc own Ts) {x : Int32} {off : Int} {tgt : Nat} (d : decode cc pc = .ok (.ifCond .ne off, 3)) (ht : (pc : Int) + off = (tgt : Int)) (kt : ¬ x = 0 → xJ p l e R s m args below meth c G A nL Q cells slots sh q μ ν lv st tgt) (kf : x = 0 → xJ p l e R s m args below meth c G A nL Q cells slots sh q μ ν lv st (pc + 3)) : xJ p l e R s m args below meth c G A nL Q cells slots sh q μ ν lv (.int x :: st) pc := fun H locs ls hP hS hl => lv_if_ne C.1 C.2.1 d ht (fun h => kt h H locs ls hP hS hl) (fun h => kf h H locs ls hP hS hl)
theorem x_icmp_ne (C : xC p s m args meth c G A nL cc own Ts) {x y : Int32} {off : Int} {tgt : Nat} (d : decode cc pc = .ok (.if_icmp .ne off, 3)) (ht : (pc : Int) + off = (tgt : Int)) (kt : ¬ x = y → xJ p l e R s m args below meth c G A nL Q cells slots sh q μ ν lv st tgt) (kf : x = y → xJ p l e R s m args below meth c G A nL Q cells slots sh q μ ν lv st (pc + 3)) : xJ p l e R s m args below meth c G A nL Q cells slots sh q μ ν lv (.int y :: .int x :: st) pc := fun H locs ls hP hS hl => lv_icmp_ne C.1 C.2.1 d ht (fun h => kt h H locs ls hP hS hl) (fun h => kf h H locs ls hP hS hl)
theorem x_if_lt (C : xC p s m args meth c G A nL cc own Ts) {x : Int32} {off : Int} {tgt : Nat} (d : decode cc pc = .ok (.ifCond .lt off, 3)) (ht : (pc : Int) + off = (tgt : Int)) (kt : x < 0 → xJ p l e R s m args below meth c G A nL Q cells slots sh q μ ν lv st tgt) (kf : ¬ x < 0 → xJ p l e R s m args below meth c G A nL Q cells slots sh q μ ν lv st (pc + 3)) : xJ p l e R s m args below meth c G A nL Q cells slots sh q μ ν lv (.int x :: st) pc := fun H locs ls hP hS hl => lv_if_lt C.1 C.2.1 d ht (fun h => kt h H locs ls hP hS hl) (fun h => kf h H locs ls hP hS hl)
theorem x_icmp_lt (C : xC p s m args meth c G A nL cc own Ts) {x y : Int32} {off : Int} {tgt : Nat} (d : decode cc pc = .ok (.if_icmp .lt off, 3)) (ht : (pc : Int) + off = (tgt : Int)) (kt : x < y → xJ p l e R s m args below meth c G A nL Q cells slots sh q μ ν lv st tgt) (kf : ¬ x < y → xJ p l e R s m args below meth c G A nL Q cells slots sh q μ ν lv st (pc + 3)) : xJ p l e R s m args below meth c G A nL Q cells slots sh q μ ν lv (.int y :: .int x :: st) pc := fun H locs ls hP hS hl => lv_icmp_lt C.1 C.2.1 d ht (fun h => kt h H locs ls hP hS hl) (fun h => kf h H locs ls hP hS hl)
theorem x_if_ge (C : xC p s m args meth c G A nL cc own Ts) {x : Int32} {off : Int} {tgt : Nat} (d : decode cc pc = .ok (.ifCond .ge off, 3)) (ht : (pc : Int) + off = (tgt : Int)) (kt : 0 ≤ x → xJ p l e R s m args below meth c G A nL Q cells slots sh q μ ν lv st tgt) (kf : ¬ 0 ≤ x → xJ p l e R s m args below meth c G A nL Q cells slots sh q μ ν lv st (pc + 3)) : xJ p l e R s m args below meth c G A nL Q cells slots sh q μ ν lv (.int x :: st) pc := fun H locs ls hP hS hl => lv_if_ge C.1 C.2.1 d ht (fun h => kt h H locs ls hP hS hl) (fun h => kf h H locs ls hP hS hl)
theorem x_icmp_ge (C : xC p s m args meth c G A nL cc own Ts) {x y : Int32} {off : Int} {tgt : Nat} (d : decode cc pc = .ok (.if_icmp .ge off, 3)) (ht : (pc : Int) + off = (tgt : Int)) (kt : y ≤ x → xJ p l e R s m args below meth c G A nL Q cells slots sh q μ ν lv st tgt) (kf : ¬ y ≤ x → xJ p l e R s m args below meth c G A nL Q cells slots sh q μ ν lv st (pc + 3)) : xJ p l e R s m args below meth c G A nL Q cells slots sh q μ ν lv (.int y :: .int x :: st) pc := fun H locs ls hP hS hl => lv_icmp_ge C.1 C.2.1 d ht (fun h => kt h H locs ls hP hS hl) (fun h => kf h H locs ls hP hS hl)
theorem x_if_gt (C : xC p s m args meth c G A nL cc own Ts) {x : Int32} {off : Int} {tgt : Nat} (d : decode cc pc = .ok (.ifCond .gt off, 3)) (ht : (pc : Int) + off = (tgt : Int)) (kt : 0 < x → xJ p l e R s m args below meth c G A nL Q cells slots sh q μ ν lv st tgt) (kf : ¬ 0 < x → xJ p l e R s m args below meth c G A nL Q cells slots sh q μ ν lv st (pc + 3)) : xJ p l e R s m args below meth c G A nL Q cells slots sh q μ ν lv (.int x :: st) pc := fun H locs ls hP hS hl => lv_if_gt C.1 C.2.1 d ht (fun h => kt h H locs ls hP hS hl) (fun h => kf h H locs ls hP hS hl)
theorem x_icmp_gt (C : xC p s m args meth c G A nL cc own Ts) {x y : Int32} {off : Int} {tgt : Nat} (d : decode cc pc = .ok (.if_icmp .gt off, 3)) (ht : (pc : Int) + off = (tgt : Int)) (kt : y < x → xJ p l e R s m args below meth c G A nL Q cells slots sh q μ ν lv st tgt) (kf : ¬ y < x → xJ p l e R s m args below meth c G A nL Q cells slots sh q μ ν lv st (pc + 3)) : xJ p l e R s m args below meth c G A nL Q cells slots sh q μ ν lv (.int y :: .int x :: st) pc := fun H locs ls hP hS hl => lv_icmp_gt C.1 C.2.1 d ht (fun h => kt h H locs ls hP hS hl) (fun h => kf h H locs ls hP hS hl)
theorem x_if_le (C : xC p s m args meth c G A nL cc own Ts) {x : Int32} {off : Int} {tgt : Nat} (d : decode cc pc = .ok (.ifCond .le off, 3)) (ht : (pc : Int) + off = (tgt : Int)) (kt : x ≤ 0 → xJ p l e R s m args below meth c G A nL Q cells slots sh q μ ν lv st tgt) (kf : ¬ x ≤ 0 → xJ p l e R s m args below meth c G A nL Q cells slots sh q μ ν lv st (pc + 3)) : xJ p l e R s m args below meth c G A nL Q cells slots sh q μ ν lv (.int x :: st) pc := fun H locs ls hP hS hl => lv_if_le C.1 C.2.1 d ht (fun h => kt h H locs ls hP hS hl) (fun h => kf h H locs ls hP hS hl)
theorem x_icmp_le (C : xC p s m args meth c G A nL cc own Ts) {x y : Int32} {off : Int} {tgt : Nat} (d : decode cc pc = .ok (.if_icmp .le off, 3)) (ht : (pc : Int) + off = (tgt : Int)) (kt : x ≤ y → xJ p l e R s m args below meth c G A nL Q cells slots sh q μ ν lv st tgt) (kf : ¬ x ≤ y → xJ p l e R s m args below meth c G A nL Q cells slots sh q μ ν lv st (pc + 3)) : xJ p l e R s m args below meth c G A nL Q cells slots sh q μ ν lv (.int y :: .int x :: st) pc := fun H locs ls hP hS hl => lv_icmp_le C.1 C.2.1 d ht (fun h => kt h H locs ls hP hS hl) (fun h => kf h H locs ls hP hS hl)
/-! reading and writing fields and rows -/
theorem x_get (C : xC p s m args meth c G A nL cc own Ts) {CN : String} {T : u_T} {N ci index : Nat} {fs : List gF} {d : gF} {v : Value} (hin : ∀ w ∈ u_ws CN T N, w ∈ Ts) (k : Nat) (hs : sh[k]? = some (.inr (.inl (ci, fs)))) (hc : vwCl[ci]? = some (CN, T, N)) (i : Nat) (hi : i < N) (hlink : Cond.fieldLink own index (T i).1 (T i).2.1 (T i).2.2.1 ∈ Ts) (hd : fs[i]? = some d) (hv : g_fld q (μ k) (ν k) i d = v) (hdg : decode cc pc = .ok (.getfield index, 3)) (K : xJ p l e R s m args below meth c G A nL Q cells slots sh q μ ν lv (v :: st) (pc + 3)) : xJ p l e R s m args below meth c G A nL Q cells slots sh q μ ν lv (.ref (q k) :: st) pc := by
  intro H locs ls hP hS hl
  refine va_get (D := G.1) (cl := vwCl) (tys := gT G) (ci := ci) (fs := g_flds q (μ k) (ν k) 0 fs) (v := v) (C := CN) (T := T) (N := N) C.1 C.2.1 C.2.2.2.2.2.1 hin C.2.2.2.2.1 C.2.2.2.2.2.2.1 hP k (wd_at hs) hc i hi (C.2.2.2.2.2.1 _ hlink) (fun _ h => h) ?_ hdg (K H locs ls hP hS hl)
  rw [g_flds_get, hd, Option.map_some, Nat.zero_add, hv]
theorem x_puti (C : xC p s m args meth c G A nL cc own Ts) (hq : gD A q sh.length) {CN : String} {T : u_T} {N ci index : Nat} {fs : List gF} {x : Int32} {ty : FieldType} (ty0 : Nat → FieldType) (hty : ∀ k, k < N → parseFieldDescriptor (T k).2.2.1 = some (ty0 k)) (hnm : ∀ a, a < N → ∀ b, b < N → a ≠ b → (T a).2.1 ≠ (T b).2.1) (hin : ∀ w ∈ u_ws CN T N, w ∈ Ts) (k : Nat) (hs : sh[k]? = some (.inr (.inl (ci, fs)))) (hc : vwCl[ci]? = some (CN, T, N)) (i : Nat) (hi : i < N) (hlink : Cond.fieldLink own index (T i).1 (T i).2.1 (T i).2.2.1 ∈ Ts) (hfin : (T i).2.2.2 = false) (hd : parseFieldDescriptor (T i).2.2.1 = some ty) (hn : narrow ty (.int x) = .int x) (hfit : fits ty (.int x) = true) (hd2 : fs[i]? = some (.inr (some false))) (hμ : μ' = g_set μ k (upd (μ k) i x)) (hdg : decode cc pc = .ok (.putfield index, 3)) (K : xJ p l e R s m args below meth c G A nL Q cells slots sh q μ' ν lv st (pc + 3)) : xJ p l e R s m args below meth c G A nL Q cells slots sh q μ ν lv (.int x :: .ref (q k) :: st) pc := by
  intro H locs ls hP hS hl
  refine va_put (D := G.1) (cl := vwCl) (tys := gT G) (ci := ci) (fs := g_flds q (μ k) (ν k) 0 fs) (v := .int x) (ty := ty) (C := CN) (T := T) (N := N) C.1 C.2.1 C.2.2.2.2.2.1 hin ty0 hty hnm C.2.2.2.2.1 C.2.2.2.2.2.2.1 hP (gD_wd hq G μ ν) hS k (wd_at hs) hc i hi (C.2.2.2.2.2.1 _ hlink) (fun _ h => h) hfin hd hn hfit (by rw [g_flds_len]; exact g_lt hd2) hdg (fun H1 locs1 hP1 _ hS1 => K H1 locs1 ls ?_ hS1 hl)
  rw [g_flds_set q (μ k) (ν k) x fs 0 i hd2, Nat.zero_add] at hP1
  have e : g_cell G q μ' ν k (.inr (.inl (ci, fs))) = .inr (ci, g_flds q (upd (μ k) i x) (ν k) 0 fs) := by
    rw [hμ]; unfold g_cell; rw [g_set_s]
  rw [← e, wd_set hs (μ' := μ') (ν' := ν) (fun j hj => ⟨by rw [hμ]; exact g_set_n hj, rfl⟩)] at hP1
  exact hP1
theorem x_putl (C : xC p s m args meth c G A nL cc own Ts) (hq : gD A q sh.length) {CN : String} {T : u_T} {N ci index : Nat} {fs : List gF} {x : Int64} (ty0 : Nat → FieldType) (hty : ∀ k, k < N → parseFieldDescriptor (T k).2.2.1 = some (ty0 k)) (hnm : ∀ a, a < N → ∀ b, b < N → a ≠ b → (T a).2.1 ≠ (T b).2.1) (hin : ∀ w ∈ u_ws CN T N, w ∈ Ts) (k : Nat) (hs : sh[k]? = some (.inr (.inl (ci, fs)))) (hc : vwCl[ci]? = some (CN, T, N)) (i : Nat) (hi : i < N) (hlink : Cond.fieldLink own index (T i).1 (T i).2.1 (T i).2.2.1 ∈ Ts) (hfin : (T i).2.2.2 = false) (hd : parseFieldDescriptor (T i).2.2.1 = some .long) (hd2 : fs[i]? = some (.inr (some true))) (hν : ν' = g_setN ν k (vp_updL (ν k) i x)) (hdg : decode cc pc = .ok (.putfield index, 3)) (K : xJ p l e R s m args below meth c G A nL Q cells slots sh q μ ν' lv st (pc + 3)) : xJ p l e R s m args below meth c G A nL Q cells slots sh q μ ν lv (.long x :: .ref (q k) :: st) pc := by
  intro H locs ls hP hS hl
  refine va_put (D := G.1) (cl := vwCl) (tys := gT G) (ci := ci) (fs := g_flds q (μ k) (ν k) 0 fs) (v := .long x) (ty := .long) (C := CN) (T := T) (N := N) C.1 C.2.1 C.2.2.2.2.2.1 hin ty0 hty hnm C.2.2.2.2.1 C.2.2.2.2.2.2.1 hP (gD_wd hq G μ ν) hS k (wd_at hs) hc i hi (C.2.2.2.2.2.1 _ hlink) (fun _ h => h) hfin hd rfl rfl (by rw [g_flds_len]; exact g_lt hd2) hdg (fun H1 locs1 hP1 _ hS1 => K H1 locs1 ls ?_ hS1 hl)
  rw [g_flds_setN q (μ k) (ν k) x fs 0 i hd2, Nat.zero_add] at hP1
  have e : g_cell G q μ ν' k (.inr (.inl (ci, fs))) = .inr (ci, g_flds q (μ k) (vp_updL (ν k) i x) 0 fs) := by
    rw [hν]; unfold g_cell; rw [g_setN_s]
  rw [← e, wd_set hs (μ' := μ) (ν' := ν') (fun j hj => ⟨rfl, by rw [hν]; exact g_setN_n hj⟩)] at hP1
  exact hP1
theorem x_iald (C : xC p s m args meth c G A nL cc own Ts) (k : Nat) {n : Nat} {i v : Int32} (hs : sh[k]? = some (.inl n)) (hin : vp_in i n) (hv : μ k i.toNatClampNeg = v) (hdg : decode cc pc = .ok (.iaload, 1)) (K : xJ p l e R s m args below meth c G A nL Q cells slots sh q μ ν lv (.int v :: st) (pc + 1)) : xJ p l e R s m args below meth c G A nL Q cells slots sh q μ ν lv (.int i :: .ref (q k) :: st) pc := by
  intro H locs ls hP hS hl
  subst hv
  exact va_iald (D := G.1) (cl := vwCl) (tys := gT G) C.1 C.2.1 C.2.2.2.2.2.2.1 hP k 0 (wd_at hs) rfl hin hdg (K H locs ls hP hS hl)
theorem x_iast (C : xC p s m args meth c G A nL cc own Ts) (hq : gD A q sh.length) (k : Nat) {n : Nat} {i x : Int32} (hs : sh[k]? = some (.inl n)) (hin : vp_in i n) (hμ : μ' = g_set μ k (upd (μ k) i.toNatClampNeg x)) (hdg : decode cc pc = .ok (.iastore, 1)) (K : xJ p l e R s m args below meth c G A nL Q cells slots sh q μ' ν lv st (pc + 1)) : xJ p l e R s m args below meth c G A nL Q cells slots sh q μ ν lv (.int x :: .int i :: .ref (q k) :: st) pc := by
  intro H locs ls hP hS hl
  refine va_iast (D := G.1) (cl := vwCl) (tys := gT G) C.1 C.2.1 C.2.2.2.2.2.2.1 hP (gD_wd hq G μ ν) hS k 0 (wd_at hs) rfl hin hdg (fun H1 locs1 hP1 _ hS1 => K H1 locs1 ls ?_ hS1 hl)
  have e : g_cell G q μ' ν k (.inl n) = .inl (G.2.1, n, .inl (upd (μ k) i.toNatClampNeg x)) := by
    rw [hμ]; unfold g_cell; rw [g_set_s]
  rw [← e, wd_set hs (μ' := μ') (ν' := ν) (fun j hj => ⟨by rw [hμ]; exact g_set_n hj, rfl⟩)] at hP1
  exact hP1
theorem x_alen (C : xC p s m args meth c G A nL cc own Ts) (k : Nat) {n : Nat} {v : Int32} (hs : sh[k]? = some (.inl n)) (hv : Int32.ofNat n = v) (hdg : decode cc pc = .ok (.arraylength, 1)) (K : xJ p l e R s m args below meth c G A nL Q cells slots sh q μ ν lv (.int v :: st) (pc + 1)) : xJ p l e R s m args below meth c G A nL Q cells slots sh q μ ν lv (.ref (q k) :: st) pc := by
  intro H locs ls hP hS hl
  exact va_alen (D := G.1) (cl := vwCl) (tys := gT G) C.1 C.2.1 C.2.2.2.2.2.2.1 hP k 0 (wd_at hs) (ty := .int) rfl hv hdg (K H locs ls hP hS hl)
/-! contracts -/
def gPc (G : gG) (sh : List gC) (q : Nat → Nat) (μ : gM) (ν : gN) (sz : Nat) (av : List Value) : Array Value → State → Prop := va_Pc av (fun U => U.heap.size = sz ∧ va_P G.1 vwCl (wd G q μ ν 0 sh) U.heap ∧ gK G U ∧ ∀ i j, i < sh.length → j < sh.length → q i = q j → i = j)
def gB (G : gG) (sh : List gC) (q : Nat → Nat) (μ : gM) (ν : gN) : Unit → State → Prop := fun _ t => va_P G.1 vwCl (wd G q μ ν 0 sh) t.heap
def gQi (G : gG) (sh : List gC) (q : Nat → Nat) (μ' : gM) (ν' : gN) (sz : Nat) (r : Int32) : Array Value → State → Outcome → State → Prop := va_Qi (fun r' (_ : Unit) => r' = r) (gB G sh q μ' ν') (gA q sh.length sz)
def gQl (G : gG) (sh : List gC) (q : Nat → Nat) (μ' : gM) (ν' : gN) (sz : Nat) (r : Int64) : Array Value → State → Outcome → State → Prop := va_Ql (fun r' (_ : Unit) => r' = r) (gB G sh q μ' ν') (gA q sh.length sz)
def gQd (G : gG) (sh : List gC) (q : Nat → Nat) (μ' : gM) (ν' : gN) (sz : Nat) (r : UInt64) : Array Value → State → Outcome → State → Prop := va_Qd (fun r' (_ : Unit) => r' = r) (gB G sh q μ' ν') (gA q sh.length sz)
def gQv (G : gG) (sh : List gC) (q : Nat → Nat) (μ' : gM) (ν' : gN) (sz : Nat) : Array Value → State → Outcome → State → Prop := va_Qv (fun (_ : Unit) => True) (gB G sh q μ' ν') (gA q sh.length sz)
def gMi (l : Launch) (y : MethodName) (ws : List Cond) (rm : Room) (G : gG) (sh : List gC) (q : Nat → Nat) (μ : gM) (ν : gN) (av : List Value) (μ' : gM) (ν' : gN) (r : Int32) : Prop := ∀ sz : Nat, Met l y ws rm (gPc G sh q μ ν sz av) (gQi G sh q μ' ν' sz r) 0 0 (gA q sh.length sz)
def gMl (l : Launch) (y : MethodName) (ws : List Cond) (rm : Room) (G : gG) (sh : List gC) (q : Nat → Nat) (μ : gM) (ν : gN) (av : List Value) (μ' : gM) (ν' : gN) (r : Int64) : Prop := ∀ sz : Nat, Met l y ws rm (gPc G sh q μ ν sz av) (gQl G sh q μ' ν' sz r) 0 0 (gA q sh.length sz)
def gMd (l : Launch) (y : MethodName) (ws : List Cond) (rm : Room) (G : gG) (sh : List gC) (q : Nat → Nat) (μ : gM) (ν : gN) (av : List Value) (μ' : gM) (ν' : gN) (r : UInt64) : Prop := ∀ sz : Nat, Met l y ws rm (gPc G sh q μ ν sz av) (gQd G sh q μ' ν' sz r) 0 0 (gA q sh.length sz)
def gMv (l : Launch) (y : MethodName) (ws : List Cond) (rm : Room) (G : gG) (sh : List gC) (q : Nat → Nat) (μ : gM) (ν : gN) (av : List Value) (μ' : gM) (ν' : gN) : Prop := ∀ sz : Nat, Met l y ws rm (gPc G sh q μ ν sz av) (gQv G sh q μ' ν' sz) 0 0 (gA q sh.length sz)
theorem gK_moved {G : gG} {u U : State} (hvm : u.vm.Alike U.vm) (h : gK G u) : gK G U := va_K.moved hvm h
theorem g_iret (C : xC p s m args meth c G (gA q sh.length s.heap.size) nL cc own Ts) {r v : Int32} {rt : FieldType} (hr : meth.sig.returnType = some rt) (hn : narrow rt (.int v) = .int v) (hdg : decode cc pc = .ok (.ireturn, 1)) (h1 : v = r) (h2 : μ = μ') (h3 : ν = ν') : xJ p l e R s m args below meth c G (gA q sh.length s.heap.size) nL (MQ below (gQi G sh q μ' ν' s.heap.size r) args s 0 0 (gA q sh.length s.heap.size)) 0 0 sh q μ ν lv [.int v] pc := by
  intro H locs ls hP hS hl
  subst h1; subst h2; subst h3
  exact W.zret (v := v) C.1 C.2.1 hr hn (fun t ht hW => ⟨⟨v, (), rfl, rfl, by show va_P _ _ _ t.heap; rw [ht]; exact hP⟩, hS.F ht⟩) hS.2.2 hdg C.2.2.1
theorem g_lret (C : xC p s m args meth c G (gA q sh.length s.heap.size) nL cc own Ts) {r v : Int64} (hr : meth.sig.returnType = some .long) (hdg : decode cc pc = .ok (.lreturn, 1)) (h1 : v = r) (h2 : μ = μ') (h3 : ν = ν') : xJ p l e R s m args below meth c G (gA q sh.length s.heap.size) nL (MQ below (gQl G sh q μ' ν' s.heap.size r) args s 0 0 (gA q sh.length s.heap.size)) 0 0 sh q μ ν lv [.long v] pc := by
  intro H locs ls hP hS hl
  subst h1; subst h2; subst h3
  exact W.lret (v := v) C.1 C.2.1 hr (fun t ht hW => ⟨⟨v, (), rfl, rfl, by show va_P _ _ _ t.heap; rw [ht]; exact hP⟩, hS.F ht⟩) hS.2.2 hdg C.2.2.1
theorem g_dret (C : xC p s m args meth c G (gA q sh.length s.heap.size) nL cc own Ts) {r v : UInt64} (hr : meth.sig.returnType = some .double) (hdg : decode cc pc = .ok (.dreturn, 1)) (h1 : v = r) (h2 : μ = μ') (h3 : ν = ν') : xJ p l e R s m args below meth c G (gA q sh.length s.heap.size) nL (MQ below (gQd G sh q μ' ν' s.heap.size r) args s 0 0 (gA q sh.length s.heap.size)) 0 0 sh q μ ν lv [.double v] pc := by
  intro H locs ls hP hS hl
  subst h1; subst h2; subst h3
  exact W.dret (v := v) C.1 C.2.1 hr (fun t ht hW => ⟨⟨v, (), rfl, rfl, by show va_P _ _ _ t.heap; rw [ht]; exact hP⟩, hS.F ht⟩) hS.2.2 hdg C.2.2.1
theorem g_vret (C : xC p s m args meth c G (gA q sh.length s.heap.size) nL cc own Ts) (hr : meth.sig.returnType = none) (hdg : decode cc pc = .ok (.return_, 1)) (h2 : μ = μ') (h3 : ν = ν') : xJ p l e R s m args below meth c G (gA q sh.length s.heap.size) nL (MQ below (gQv G sh q μ' ν' s.heap.size) args s 0 0 (gA q sh.length s.heap.size)) 0 0 sh q μ ν lv [] pc := by
  intro H locs ls hP hS hl
  subst h2; subst h3
  exact W.vret C.1 C.2.1 hr (fun t ht hW => ⟨⟨(), rfl, trivial, by show va_P _ _ _ t.heap; rw [ht]; exact hP⟩, hS.F ht⟩) hS.2.2 hdg C.2.2.1
end XJ
/-- the head of every method -/
theorem g_met {l : Launch} {y : MethodName} {ws ws' : List Cond} {rm : Room} {G : gG} {sh : List gC} {q : Nat → Nat} {μ : gM} {ν : gN} {av : List Value} {sz : Nat} {Qc : Nat → Array Value → State → Outcome → State → Prop} {cc : ByteArray} {maxL : Nat} {ret : Option FieldType} {own : String} (hy : plainName y.cls = true) (ho : y.cls = own) (hw : ws = Cond.code y cc maxL ret :: ws') (hlen : (lg_sl av).length ≤ maxL)
    (body : ∀ (p : Program) (e : Env) (s : State) (m : MethodId) (below : List Frame) (meth : Method) (c : Code), xC p s m av.toArray meth c G (gA q sh.length s.heap.size) maxL cc own ws → gD (gA q sh.length s.heap.size) q sh.length → meth.sig.returnType = ret → xJ p l e rm s m av.toArray below meth c G (gA q sh.length s.heap.size) maxL (MQ below (Qc s.heap.size) av.toArray s 0 0 (gA q sh.length s.heap.size)) 0 0 sh q μ ν (lv_args 0 av) [] 0) :
    Met l y ws rm (gPc G sh q μ ν sz av) (Qc sz) 0 0 (gA q sh.length sz) := by
  refine Met.ofW (cc := cc) (maxL := maxL) (ret := ret) hy hw ?_
  intro p e s m args below meth c s₁ B hml hv
  obtain ⟨rfl, rfl, hP, hK, hD⟩ := hv
  have hts := atoms_spec (ws := ws) B.pre
  have hA : ∀ a : Nat, s.heap.size ≤ a → gA q sh.length s.heap.size a := fun a h => Or.inr h
  have C : xC p s m av.toArray meth c G (gA q sh.length s.heap.size) maxL cc own ws := ⟨B.exec, B.bytes, B.notSynchronized, hml, ho ▸ findClass_of_methodNamed B.named, hts, hK, hA⟩
  have hq : gD (gA q sh.length s.heap.size) q sh.length := ⟨hD, fun k hk => Or.inl ⟨k, hk, rfl⟩⟩
  have hl := lv_entry av (n := maxL) hlen
  rw [lg_entry_eq]
  exact body p e s m below meth c C hq B.returns s.heap [] _ hP va_S.rf hl
/-! calls: how a callee's picture lies in the caller's -/
def gFr (G : gG) (sh : List gC) (q : Nat → Nat) (μ : gM) (ν : gN) (shc : List gC) (qc : Nat → Nat) (μc : gM) (νc : gN) (μr : gM) (νr : gN) (μ' : gM) (ν' : gN) : Prop :=
  (∀ H, va_P G.1 vwCl (wd G q μ ν 0 sh) H → va_P G.1 vwCl (wd G qc μc νc 0 shc) H) ∧
  ((∀ i j, i < sh.length → j < sh.length → q i = q j → i = j) → (∀ i j, i < shc.length → j < shc.length → qc i = qc j → i = j)) ∧
  (∀ k, k < shc.length → ∃ k', k' < sh.length ∧ qc k = q k') ∧
  ∀ H H1 : Heap, (∀ i j, i < sh.length → j < sh.length → q i = q j → i = j) → va_P G.1 vwCl (wd G q μ ν 0 sh) H → va_P G.1 vwCl (wd G qc μr νr 0 shc) H1 → (∀ a : Nat, a < H.size → ¬ gA qc shc.length H.size a → H1[a]? = H[a]?) → va_P G.1 vwCl (wd G q μ' ν' 0 sh) H1
theorem gFr_same {G : gG} {sh : List gC} {q : Nat → Nat} {μ μ' : gM} {ν ν' : gN} : gFr G sh q μ ν sh q μ ν μ' ν' μ' ν' :=
  ⟨fun _ h => h, fun h => h, fun k hk => ⟨k, hk, rfl⟩, fun _ _ _ _ h _ => h⟩
def g_sel {α : Type} (es : List Nat) (f : Nat → α) : Nat → α := fun k => f (es.getD k 0)
def g_rnf (es : List Nat) (d : gF) : gF := match d with
  | .inl j => .inl (es.getD j 0)
  | .inr b => .inr b
def g_ren (es : List Nat) (d : gC) : gC := match d with
  | .inl n => .inl n
  | .inr (.inl o) => .inr (.inl (o.1, o.2.map (g_rnf es)))
  | .inr (.inr (.inl ids)) => .inr (.inr (.inl (ids.map (Option.map (fun j => es.getD j 0)))))
  | .inr (.inr (.inr n)) => .inr (.inr (.inr n))
def g_ix : Nat → List Nat → Nat → Option Nat
  | _, [], _ => none
  | b, e :: es, k => if k = e then some b else g_ix (b + 1) es k
def g_mrg {α : Type} (es : List Nat) (f g : Nat → α) : Nat → α := fun k => match g_ix 0 es k with
  | some j => g j
  | none => f k
theorem g_ix_none : ∀ (es : List Nat) (b k : Nat), k ∉ es → g_ix b es k = none := by
  intro es
  induction es with
  | nil => intro b k _; rfl
  | cons e es ih =>
    intro b k h
    have h1 : k ≠ e := fun q => h (q ▸ List.mem_cons_self)
    have h2 : k ∉ es := fun q => h (List.mem_cons_of_mem _ q)
    simp only [g_ix, if_neg h1, ih (b + 1) k h2]
theorem g_ix_some : ∀ (es : List Nat) (b j k : Nat), es.Nodup → es[j]? = some k → g_ix b es k = some (b + j) := by
  intro es
  induction es with
  | nil => intro b j k _ h; simp at h
  | cons e es ih =>
    intro b j k hn h
    rw [List.nodup_cons] at hn
    cases j with
    | zero =>
      simp only [List.getElem?_cons_zero, Option.some.injEq] at h
      simp only [g_ix, if_pos h.symm, Nat.add_zero]
    | succ j =>
      simp only [List.getElem?_cons_succ] at h
      have h1 : k ≠ e := fun q => hn.1 (q ▸ List.mem_of_getElem? h)
      simp only [g_ix, if_neg h1]
      rw [ih (b + 1) j k hn.2 h, show b + 1 + j = b + (j + 1) from by omega]
theorem g_mrg_in {α : Type} {es : List Nat} {f g : Nat → α} {j k : Nat} (hn : es.Nodup) (h : es[j]? = some k) : g_mrg es f g k = g j := by
  unfold g_mrg; rw [g_ix_some es 0 j k hn h, Nat.zero_add]
theorem g_mrg_out {α : Type} {es : List Nat} {f g : Nat → α} {k : Nat} (h : k ∉ es) : g_mrg es f g k = f k := by
  unfold g_mrg; rw [g_ix_none es 0 k h]
theorem g_mrg_id {α : Type} {es : List Nat} {f : Nat → α} (hn : es.Nodup) : g_mrg es f (g_sel es f) = f := by
  funext k
  by_cases h : k ∈ es
  · obtain ⟨j, hj⟩ := List.getElem?_of_mem h
    rw [g_mrg_in hn hj]
    simp [g_sel, List.getD, hj]
  · exact g_mrg_out h
def gSub (sh shc : List gC) (es : List Nat) : Prop := es.Nodup ∧ es.map (fun k => sh[k]?) = shc.map (fun d => some (g_ren es d))
theorem g_flds_ren {es : List Nat} {q : Nat → Nat} {f : Nat → Int32} {h : Nat → Int64} : ∀ (fs : List gF) (b : Nat), g_flds (g_sel es q) f h b fs = g_flds q f h b (fs.map (g_rnf es)) := by
  intro fs
  induction fs with
  | nil => intro b; rfl
  | cons d fs ih =>
    intro b
    simp only [List.map_cons, g_flds, ih (b + 1)]
    congr 1
    rcases d with j | (_ | (_ | _)) <;> rfl
theorem g_cell_ren {G : gG} {es : List Nat} {q : Nat → Nat} {μ μr : gM} {ν νr : gN} {k e : Nat} (d : gC) (h1 : μr k = μ e) (h2 : νr k = ν e) : g_cell G (g_sel es q) μr νr k d = g_cell G q μ ν e (g_ren es d) := by
  rcases d with n | (o | (ids | n))
  · simp only [g_ren, g_cell, h1]
  · simp only [g_ren, g_cell, h1, h2, g_flds_ren]
  · simp only [g_ren, g_cell, List.length_map]
    congr 7
    funext i
    simp only [List.getD, List.getElem?_map]
    cases ids[i]? with
    | none => rfl
    | some x => cases x <;> rfl
  · simp only [g_ren, g_cell, h2]
theorem gSub_at {sh shc : List gC} {es : List Nat} (h : gSub sh shc es) {k : Nat} {d : gC} (hd : shc[k]? = some d) : ∃ e, es[k]? = some e ∧ sh[e]? = some (g_ren es d) := by
  have h1 : (es.map (fun k => sh[k]?))[k]? = some (some (g_ren es d)) := by rw [h.2, List.getElem?_map, hd]; rfl
  rw [List.getElem?_map] at h1
  cases he : es[k]? with
  | none => rw [he] at h1; cases h1
  | some e => rw [he] at h1; exact ⟨e, rfl, Option.some.inj h1⟩
theorem gSub_len {sh shc : List gC} {es : List Nat} (h : gSub sh shc es) : es.length = shc.length := by
  have := congrArg List.length h.2
  simpa using this
theorem gFr_sub {G : gG} {sh shc : List gC} {q : Nat → Nat} {μ μr : gM} {ν νr : gN} {es : List Nat} (h : gSub sh shc es) : gFr G sh q μ ν shc (g_sel es q) (g_sel es μ) (g_sel es ν) μr νr (g_mrg es μ μr) (g_mrg es ν νr) := by
  have hat : ∀ k, k < shc.length → ∃ e d, es[k]? = some e ∧ shc[k]? = some d ∧ sh[e]? = some (g_ren es d) := fun k hk => by
    obtain ⟨e, h1, h2⟩ := gSub_at h (List.getElem?_eq_getElem hk)
    exact ⟨e, _, h1, List.getElem?_eq_getElem hk, h2⟩
  have hget : ∀ {k e : Nat}, es[k]? = some e → es.getD k 0 = e := fun he => by simp [List.getD, he]
  refine ⟨fun H hP => ?_, fun hi i j hii hjj hxy => ?_, fun k hk => ?_, fun H H1 hi hP hP1 hk => ?_⟩
  · intro k z hz
    obtain ⟨d, hd, rfl⟩ := wd_of hz
    obtain ⟨e, h1, h2⟩ := gSub_at h hd
    have h3 := hP e _ (wd_at h2)
    rw [g_cell_ren (μ := μ) (ν := ν) (e := e) d (by show μ (es.getD k 0) = μ e; rw [hget h1]) (by show ν (es.getD k 0) = ν e; rw [hget h1]), show g_sel es q k = q e from congrArg q (hget h1)]
    exact h3
  · obtain ⟨e1, d1, a1, b1, c1⟩ := hat i hii
    obtain ⟨e2, d2, a2, b2, c2⟩ := hat j hjj
    have h4 : q e1 = q e2 := by
      have h5 : q (es.getD i 0) = q (es.getD j 0) := hxy
      rw [hget a1, hget a2] at h5
      exact h5
    have h6 := hi e1 e2 (g_lt c1) (g_lt c2) h4
    subst h6
    exact (List.getElem?_inj (g_lt a1) h.1).mp (a1.trans a2.symm)
  · obtain ⟨e, d, a, b, c⟩ := hat k hk
    exact ⟨e, g_lt c, by show q (es.getD k 0) = q e; rw [hget a]⟩
  · intro k z hz
    obtain ⟨d, hd, rfl⟩ := wd_of hz
    by_cases hmem : k ∈ es
    · obtain ⟨j, hj⟩ := List.getElem?_of_mem hmem
      have hjl : j < shc.length := by rw [← gSub_len h]; exact g_lt hj
      obtain ⟨e, d', a, b, c⟩ := hat j hjl
      have he : e = k := Option.some.inj (a.symm.trans hj)
      subst he
      have hdd : d = g_ren es d' := Option.some.inj (hd.symm.trans c)
      subst hdd
      have h3 := hP1 j _ (wd_at b)
      rw [g_cell_ren (μ := g_mrg es μ μr) (ν := g_mrg es ν νr) (e := e) d' (g_mrg_in h.1 a).symm (g_mrg_in h.1 a).symm, show g_sel es q j = q e from congrArg q (hget a)] at h3
      exact h3
    · have h3 := hP k _ (wd_at hd)
      have hlt : q k < H.size := h3.lt
      rw [g_cell_cong (μ := μ) (ν := ν) (g_mrg_out hmem) (g_mrg_out hmem)]
      refine h3.kept (hk (q k) hlt ?_)
      rintro (⟨j, hj, hqj⟩ | hge)
      · obtain ⟨e, d', a, b, c⟩ := hat j hj
        have h5 : q k = q e := by
          have h6 : q k = q (es.getD j 0) := hqj
          rw [hget a] at h6; exact h6
        have h7 := hi k e (g_lt hd) (g_lt c) h5
        subst h7
        exact hmem (List.mem_of_getElem? a)
      · omega
/-- a callee that changes nothing -/
theorem gFr_pure {G : gG} {sh shc : List gC} {q : Nat → Nat} {μ : gM} {ν : gN} {es : List Nat} (h : gSub sh shc es) : gFr G sh q μ ν shc (g_sel es q) (g_sel es μ) (g_sel es ν) (g_sel es μ) (g_sel es ν) μ ν := by
  have := gFr_sub (G := G) (q := q) (μ := μ) (ν := ν) (μr := g_sel es μ) (νr := g_sel es ν) h
  rw [g_mrg_id h.1, g_mrg_id h.1] at this
  exact this
theorem g_blind {G : gG} {sh : List gC} {q : Nat → Nat} {μ : gM} {ν : gN} {sz : Nat} {av : List Value} : FrameBlind (gPc G sh q μ ν sz av) := fun a U g mk h => by
  obtain ⟨q0, q1, qP, qK, qD⟩ := h
  exact ⟨q0, q1, qP, va_K.moved (u := U) (U := U.calling g mk a) (Vm.Alike.refl U.vm) qK, qD⟩
section XK
variable {p : Program} {l : Launch} {e : Env} {R : Room} {s : State} {m : MethodId} {args : Array Value} {below : List Frame} {meth : Method} {c : Code} {G : gG} {A : Nat → Prop} {nL : Nat} {Q : State → Prop} {cells slots : Nat} {sh shc : List gC} {q qc : Nat → Nat} {μ μc μr μ' : gM} {ν νc νr ν' : gN} {lv lv' : List (Nat × Value)} {st st' : List Value} {pc : Nat}
variable {cc : ByteArray} {own : String} {Ts : List Cond}
theorem g_preS (C : xC p s m args meth c G A nL cc own Ts) (hq : gD A q sh.length) (hF : gFr G sh q μ ν shc qc μc νc μr νr μ' ν') {H : Heap} (hP : va_P G.1 vwCl (wd G q μ ν 0 sh) H) (av : List Value) : PreS s H (gPc G shc qc μc νc H.size av) av :=
  ⟨g_blind, fun U hU hW => ⟨rfl, by rw [hU], by rw [hU]; exact hF.1 H hP, va_K.moved hW.alike C.2.2.2.2.2.2.1, hF.2.1 hq.1⟩⟩
theorem g_preV (C : xC p s m args meth c G A nL cc own Ts) (hq : gD A q sh.length) (hF : gFr G sh q μ ν shc qc μc νc μr νr μ' ν') {H : Heap} (hP : va_P G.1 vwCl (wd G q μ ν 0 sh) H) {ci : Nat} {fs : List gF} {CN : String} {T : u_T} {N : Nat} (hs : shc[0]? = some (.inr (.inl (ci, fs)))) (hc : vwCl[ci]? = some (CN, T, N)) (as : List Value) : PreV s H CN (qc 0) (gPc G shc qc μc νc H.size (.ref (qc 0) :: as)) as :=
  ⟨g_blind, va_recv C.2.2.2.2.2.2.1 (hF.1 H hP) (ci := ci) (q0 := 0) hc (wd_at hs), fun U hU hW => ⟨rfl, by rw [hU], by rw [hU]; exact hF.1 H hP, va_K.moved hW.alike C.2.2.2.2.2.2.1, hF.2.1 hq.1⟩⟩
theorem g_frA (C : xC p s m args meth c G A nL cc own Ts) (hq : gD A q sh.length) (hF : gFr G sh q μ ν shc qc μc νc μr νr μ' ν') {H : Heap} {locs : List Loc} (hS : va_S A s.heap H locs) : ∀ a, gA qc shc.length H.size a → A a := by
  rintro a (⟨k, hk, rfl⟩ | h)
  · obtain ⟨k', h1, h2⟩ := hF.2.2.1 k hk
    rw [h2]; exact hq.2 k' h1
  · exact C.2.2.2.2.2.2.2 a (Nat.le_trans hS.1 h)
variable {y : MethodName} {wsy : List Cond} {rm : Room} {index n maxL : Nat} {bytes : ByteArray} {ret : Option FieldType}
theorem x_callSi (C : xC p s m args meth c G A nL cc own Ts) (hq : gD A q sh.length) {av : List Value} {r : Int32} (hF : gFr G sh q μ ν shc qc μc νc μr νr μ' ν') (hM : gMi l y wsy rm G shc qc μc νc av μr νr r) (cw : CallB R s args own index y bytes maxL ret wsy rm 0 0 n ∧ (Cond.static y).before args s = true) (hn : av.length = n) (hst : st = av.reverse ++ st') (hsum : (st'.map fun v => v.category).sum ≤ 8) (hdg : decode cc pc = .ok (.invokestatic index, 3)) (hc : cells ≤ R.cells) (hs : slots ≤ R.slots) (K : xJ p l e R s m args below meth c G A nL Q cells slots sh q μ' ν' lv (.int r :: st') (pc + 3)) : xJ p l e R s m args below meth c G A nL Q cells slots sh q μ ν lv st pc := by
  intro H locs ls hP hS hl
  subst hst
  exact va_calli (va_runS (As := av) (rest := st') ⟨C.1, C.2.1, C.2.2.2.1, C.2.2.2.2.1, C.2.2.2.2.2.1⟩ (hM H.size) cw (g_preS C hq hF hP av) rfl hn hl.1 rfl (lv_room hsum) hdg ⟨hc, hs⟩) hS (fun a _ h => g_frA C hq hF hS a h) (g_frA C hq hF hS) (fun r' u t H1 locs1 ht hvm hw hB hz hk hS1 => by
    have hw : r' = r := hw
    subst hw
    have hB : va_P G.1 vwCl (wd G qc μr νr 0 shc) t.heap := hB
    rw [ht] at hB
    exact K H1 locs1 ls (hF.2.2.2 H H1 hq.1 hP hB hk) hS1 hl)
theorem x_callVi (C : xC p s m args meth c G A nL cc own Ts) (hq : gD A q sh.length) {as : List Value} {ci : Nat} {fs : List gF} {CN : String} {T : u_T} {N : Nat} {r : Int32} (hF : gFr G sh q μ ν shc qc μc νc μr νr μ' ν') (hM : gMi l y wsy rm G shc qc μc νc (.ref (qc 0) :: as) μr νr r) (cw : CallW R s args own CN index y bytes maxL ret wsy rm 0 0 n) (hsc : shc[0]? = some (.inr (.inl (ci, fs)))) (hcl : vwCl[ci]? = some (CN, T, N)) (hn : as.length = n) (hst : st = as.reverse ++ .ref (qc 0) :: st') (hsum : (st'.map fun v => v.category).sum ≤ 8) (hdg : decode cc pc = .ok (.invokevirtual index, 3)) (hc : cells ≤ R.cells) (hs : slots ≤ R.slots) (K : xJ p l e R s m args below meth c G A nL Q cells slots sh q μ' ν' lv (.int r :: st') (pc + 3)) : xJ p l e R s m args below meth c G A nL Q cells slots sh q μ ν lv st pc := by
  intro H locs ls hP hS hl
  subst hst
  exact va_calli (va_runV (As := as) (rest := st') ⟨C.1, C.2.1, C.2.2.2.1, C.2.2.2.2.1, C.2.2.2.2.2.1⟩ (hM H.size) cw (g_preV C hq hF hP hsc hcl as) rfl hn hl.1 rfl (lv_room hsum) hdg ⟨hc, hs⟩) hS (fun a _ h => g_frA C hq hF hS a h) (g_frA C hq hF hS) (fun r' u t H1 locs1 ht hvm hw hB hz hk hS1 => by
    have hw : r' = r := hw
    subst hw
    have hB : va_P G.1 vwCl (wd G qc μr νr 0 shc) t.heap := hB
    rw [ht] at hB
    exact K H1 locs1 ls (hF.2.2.2 H H1 hq.1 hP hB hk) hS1 hl)
theorem x_callSl (C : xC p s m args meth c G A nL cc own Ts) (hq : gD A q sh.length) {av : List Value} {r : Int64} (hF : gFr G sh q μ ν shc qc μc νc μr νr μ' ν') (hM : gMl l y wsy rm G shc qc μc νc av μr νr r) (cw : CallB R s args own index y bytes maxL ret wsy rm 0 0 n ∧ (Cond.static y).before args s = true) (hn : av.length = n) (hst : st = av.reverse ++ st') (hsum : (st'.map fun v => v.category).sum ≤ 8) (hdg : decode cc pc = .ok (.invokestatic index, 3)) (hc : cells ≤ R.cells) (hs : slots ≤ R.slots) (K : xJ p l e R s m args below meth c G A nL Q cells slots sh q μ' ν' lv (.long r :: st') (pc + 3)) : xJ p l e R s m args below meth c G A nL Q cells slots sh q μ ν lv st pc := by
  intro H locs ls hP hS hl
  subst hst
  exact va_calll (va_runS (As := av) (rest := st') ⟨C.1, C.2.1, C.2.2.2.1, C.2.2.2.2.1, C.2.2.2.2.2.1⟩ (hM H.size) cw (g_preS C hq hF hP av) rfl hn hl.1 rfl (lv_room hsum) hdg ⟨hc, hs⟩) hS (fun a _ h => g_frA C hq hF hS a h) (g_frA C hq hF hS) (fun r' u t H1 locs1 ht hvm hw hB hz hk hS1 => by
    have hw : r' = r := hw
    subst hw
    have hB : va_P G.1 vwCl (wd G qc μr νr 0 shc) t.heap := hB
    rw [ht] at hB
    exact K H1 locs1 ls (hF.2.2.2 H H1 hq.1 hP hB hk) hS1 hl)
theorem x_callVl (C : xC p s m args meth c G A nL cc own Ts) (hq : gD A q sh.length) {as : List Value} {ci : Nat} {fs : List gF} {CN : String} {T : u_T} {N : Nat} {r : Int64} (hF : gFr G sh q μ ν shc qc μc νc μr νr μ' ν') (hM : gMl l y wsy rm G shc qc μc νc (.ref (qc 0) :: as) μr νr r) (cw : CallW R s args own CN index y bytes maxL ret wsy rm 0 0 n) (hsc : shc[0]? = some (.inr (.inl (ci, fs)))) (hcl : vwCl[ci]? = some (CN, T, N)) (hn : as.length = n) (hst : st = as.reverse ++ .ref (qc 0) :: st') (hsum : (st'.map fun v => v.category).sum ≤ 8) (hdg : decode cc pc = .ok (.invokevirtual index, 3)) (hc : cells ≤ R.cells) (hs : slots ≤ R.slots) (K : xJ p l e R s m args below meth c G A nL Q cells slots sh q μ' ν' lv (.long r :: st') (pc + 3)) : xJ p l e R s m args below meth c G A nL Q cells slots sh q μ ν lv st pc := by
  intro H locs ls hP hS hl
  subst hst
  exact va_calll (va_runV (As := as) (rest := st') ⟨C.1, C.2.1, C.2.2.2.1, C.2.2.2.2.1, C.2.2.2.2.2.1⟩ (hM H.size) cw (g_preV C hq hF hP hsc hcl as) rfl hn hl.1 rfl (lv_room hsum) hdg ⟨hc, hs⟩) hS (fun a _ h => g_frA C hq hF hS a h) (g_frA C hq hF hS) (fun r' u t H1 locs1 ht hvm hw hB hz hk hS1 => by
    have hw : r' = r := hw
    subst hw
    have hB : va_P G.1 vwCl (wd G qc μr νr 0 shc) t.heap := hB
    rw [ht] at hB
    exact K H1 locs1 ls (hF.2.2.2 H H1 hq.1 hP hB hk) hS1 hl)
theorem x_callSd (C : xC p s m args meth c G A nL cc own Ts) (hq : gD A q sh.length) {av : List Value} {r : UInt64} (hF : gFr G sh q μ ν shc qc μc νc μr νr μ' ν') (hM : gMd l y wsy rm G shc qc μc νc av μr νr r) (cw : CallB R s args own index y bytes maxL ret wsy rm 0 0 n ∧ (Cond.static y).before args s = true) (hn : av.length = n) (hst : st = av.reverse ++ st') (hsum : (st'.map fun v => v.category).sum ≤ 8) (hdg : decode cc pc = .ok (.invokestatic index, 3)) (hc : cells ≤ R.cells) (hs : slots ≤ R.slots) (K : xJ p l e R s m args below meth c G A nL Q cells slots sh q μ' ν' lv (.double r :: st') (pc + 3)) : xJ p l e R s m args below meth c G A nL Q cells slots sh q μ ν lv st pc := by
  intro H locs ls hP hS hl
  subst hst
  exact va_calld (va_runS (As := av) (rest := st') ⟨C.1, C.2.1, C.2.2.2.1, C.2.2.2.2.1, C.2.2.2.2.2.1⟩ (hM H.size) cw (g_preS C hq hF hP av) rfl hn hl.1 rfl (lv_room hsum) hdg ⟨hc, hs⟩) hS (fun a _ h => g_frA C hq hF hS a h) (g_frA C hq hF hS) (fun r' u t H1 locs1 ht hvm hw hB hz hk hS1 => by
    have hw : r' = r := hw
    subst hw
    have hB : va_P G.1 vwCl (wd G qc μr νr 0 shc) t.heap := hB
    rw [ht] at hB
    exact K H1 locs1 ls (hF.2.2.2 H H1 hq.1 hP hB hk) hS1 hl)
theorem x_callVd (C : xC p s m args meth c G A nL cc own Ts) (hq : gD A q sh.length) {as : List Value} {ci : Nat} {fs : List gF} {CN : String} {T : u_T} {N : Nat} {r : UInt64} (hF : gFr G sh q μ ν shc qc μc νc μr νr μ' ν') (hM : gMd l y wsy rm G shc qc μc νc (.ref (qc 0) :: as) μr νr r) (cw : CallW R s args own CN index y bytes maxL ret wsy rm 0 0 n) (hsc : shc[0]? = some (.inr (.inl (ci, fs)))) (hcl : vwCl[ci]? = some (CN, T, N)) (hn : as.length = n) (hst : st = as.reverse ++ .ref (qc 0) :: st') (hsum : (st'.map fun v => v.category).sum ≤ 8) (hdg : decode cc pc = .ok (.invokevirtual index, 3)) (hc : cells ≤ R.cells) (hs : slots ≤ R.slots) (K : xJ p l e R s m args below meth c G A nL Q cells slots sh q μ' ν' lv (.double r :: st') (pc + 3)) : xJ p l e R s m args below meth c G A nL Q cells slots sh q μ ν lv st pc := by
  intro H locs ls hP hS hl
  subst hst
  exact va_calld (va_runV (As := as) (rest := st') ⟨C.1, C.2.1, C.2.2.2.1, C.2.2.2.2.1, C.2.2.2.2.2.1⟩ (hM H.size) cw (g_preV C hq hF hP hsc hcl as) rfl hn hl.1 rfl (lv_room hsum) hdg ⟨hc, hs⟩) hS (fun a _ h => g_frA C hq hF hS a h) (g_frA C hq hF hS) (fun r' u t H1 locs1 ht hvm hw hB hz hk hS1 => by
    have hw : r' = r := hw
    subst hw
    have hB : va_P G.1 vwCl (wd G qc μr νr 0 shc) t.heap := hB
    rw [ht] at hB
    exact K H1 locs1 ls (hF.2.2.2 H H1 hq.1 hP hB hk) hS1 hl)
theorem x_callSv (C : xC p s m args meth c G A nL cc own Ts) (hq : gD A q sh.length) {av : List Value} (hF : gFr G sh q μ ν shc qc μc νc μr νr μ' ν') (hM : gMv l y wsy rm G shc qc μc νc av μr νr) (cw : CallB R s args own index y bytes maxL ret wsy rm 0 0 n ∧ (Cond.static y).before args s = true) (hn : av.length = n) (hst : st = av.reverse ++ st') (hsum : (st'.map fun v => v.category).sum ≤ 8) (hdg : decode cc pc = .ok (.invokestatic index, 3)) (hc : cells ≤ R.cells) (hs : slots ≤ R.slots) (K : xJ p l e R s m args below meth c G A nL Q cells slots sh q μ' ν' lv st' (pc + 3)) : xJ p l e R s m args below meth c G A nL Q cells slots sh q μ ν lv st pc := by
  intro H locs ls hP hS hl
  subst hst
  exact va_callv (va_runS (As := av) (rest := st') ⟨C.1, C.2.1, C.2.2.2.1, C.2.2.2.2.1, C.2.2.2.2.2.1⟩ (hM H.size) cw (g_preS C hq hF hP av) rfl hn hl.1 rfl (lv_room hsum) hdg ⟨hc, hs⟩) hS (fun a _ h => g_frA C hq hF hS a h) (g_frA C hq hF hS) (fun u t H1 locs1 ht hvm hw hB hz hk hS1 => by
    have hB : va_P G.1 vwCl (wd G qc μr νr 0 shc) t.heap := hB
    rw [ht] at hB
    exact K H1 locs1 ls (hF.2.2.2 H H1 hq.1 hP hB hk) hS1 hl)
theorem x_callVv (C : xC p s m args meth c G A nL cc own Ts) (hq : gD A q sh.length) {as : List Value} {ci : Nat} {fs : List gF} {CN : String} {T : u_T} {N : Nat} (hF : gFr G sh q μ ν shc qc μc νc μr νr μ' ν') (hM : gMv l y wsy rm G shc qc μc νc (.ref (qc 0) :: as) μr νr) (cw : CallW R s args own CN index y bytes maxL ret wsy rm 0 0 n) (hsc : shc[0]? = some (.inr (.inl (ci, fs)))) (hcl : vwCl[ci]? = some (CN, T, N)) (hn : as.length = n) (hst : st = as.reverse ++ .ref (qc 0) :: st') (hsum : (st'.map fun v => v.category).sum ≤ 8) (hdg : decode cc pc = .ok (.invokevirtual index, 3)) (hc : cells ≤ R.cells) (hs : slots ≤ R.slots) (K : xJ p l e R s m args below meth c G A nL Q cells slots sh q μ' ν' lv st' (pc + 3)) : xJ p l e R s m args below meth c G A nL Q cells slots sh q μ ν lv st pc := by
  intro H locs ls hP hS hl
  subst hst
  exact va_callv (va_runV (As := as) (rest := st') ⟨C.1, C.2.1, C.2.2.2.1, C.2.2.2.2.1, C.2.2.2.2.2.1⟩ (hM H.size) cw (g_preV C hq hF hP hsc hcl as) rfl hn hl.1 rfl (lv_room hsum) hdg ⟨hc, hs⟩) hS (fun a _ h => g_frA C hq hF hS a h) (g_frA C hq hF hS) (fun u t H1 locs1 ht hvm hw hB hz hk hS1 => by
    have hB : va_P G.1 vwCl (wd G qc μr νr 0 shc) t.heap := hB
    rw [ht] at hB
    exact K H1 locs1 ls (hF.2.2.2 H H1 hq.1 hP hB hk) hS1 hl)
end XK
/-- what lies beyond a row's length doesn't matter -/
theorem wd_cong {G : gG} {q : Nat → Nat} {μ μ' : gM} {ν ν' : gN} {sh : List gC} {H : Heap} (h1 : ∀ k n, sh[k]? = some (.inl n) → ∀ j, j < n → μ' k j = μ k j) (h2 : ∀ k d, sh[k]? = some d → (∀ n, d ≠ .inl n) → μ' k = μ k ∧ ν' k = ν k) (h : va_P G.1 vwCl (wd G q μ ν 0 sh) H) : va_P G.1 vwCl (wd G q μ' ν' 0 sh) H := by
  intro k z hz
  obtain ⟨d, hd, rfl⟩ := wd_of hz
  have h3 := h k _ (wd_at hd)
  by_cases hn : ∃ n, d = .inl n
  · obtain ⟨n, rfl⟩ := hn
    have e : vp_cell G.2.1 (n, .inl (μ' k)) = vp_cell G.2.1 (n, .inl (μ k)) := by
      rw [vp_cell_i, vp_cell_i]
      unfold arrV
      congr 1
      apply Array.ext
      · simp
      · intro i hi1 hi2
        simp only [Array.getElem_ofFn]
        rw [h1 k n hd i (by simpa using hi1)]
    show H[q k]? = some (vp_cell G.2.1 (n, .inl (μ' k)))
    rw [e]
    exact h3
  · have h4 := h2 k d hd (fun n e => hn ⟨n, e⟩)
    rw [g_cell_cong h4.1 h4.2]
    exact h3
section XM
variable {p : Program} {l : Launch} {e : Env} {R : Room} {s : State} {m : MethodId} {args : Array Value} {below : List Frame} {meth : Method} {c : Code} {G : gG} {A : Nat → Prop} {nL : Nat} {Q : State → Prop} {cells slots : Nat} {sh : List gC} {q : Nat → Nat} {μ μ' : gM} {ν ν' : gN} {lv lv' : List (Nat × Value)} {st : List Value} {pc : Nat}
variable {cc : ByteArray} {own : String} {Ts : List Cond}
theorem x_dup2 (C : xC p s m args meth c G A nL cc own Ts) {v w : Value} (d : decode cc pc = .ok (.dup2, 1)) (hv : v.category = 1) (hw : w.category = 1) (k : xJ p l e R s m args below meth c G A nL Q cells slots sh q μ ν lv (v :: w :: v :: w :: st) (pc + 1)) : xJ p l e R s m args below meth c G A nL Q cells slots sh q μ ν lv (v :: w :: st) pc := fun H locs ls hP hS hl => lv_dup2_11 C.1 C.2.1 d hv hw (k H locs ls hP hS hl)
theorem x_topi {x z : Int32} (h : z = x) (k : xJ p l e R s m args below meth c G A nL Q cells slots sh q μ ν lv (.int z :: st) pc) : xJ p l e R s m args below meth c G A nL Q cells slots sh q μ ν lv (.int x :: st) pc := by subst h; exact k
theorem x_topl {x z : Int64} (h : z = x) (k : xJ p l e R s m args below meth c G A nL Q cells slots sh q μ ν lv (.long z :: st) pc) : xJ p l e R s m args below meth c G A nL Q cells slots sh q μ ν lv (.long x :: st) pc := by subst h; exact k
theorem x_topd {x z : UInt64} (h : z = x) (k : xJ p l e R s m args below meth c G A nL Q cells slots sh q μ ν lv (.double z :: st) pc) : xJ p l e R s m args below meth c G A nL Q cells slots sh q μ ν lv (.double x :: st) pc := by subst h; exact k
theorem x_mu {μ2 : gM} {ν2 : gN} (h1 : μ2 = μ) (h2 : ν = ν2) (k : xJ p l e R s m args below meth c G A nL Q cells slots sh q μ2 ν2 lv st pc) : xJ p l e R s m args below meth c G A nL Q cells slots sh q μ ν lv st pc := by subst h1; subst h2; exact k
theorem x_i2d (C : xC p s m args meth c G A nL cc own Ts) {x : Int32} (d : decode cc pc = .ok (.i2d, 1)) (k : xJ p l e R s m args below meth c G A nL Q cells slots sh q μ ν lv (.double (FP.i2d x) :: st) (pc + 1)) : xJ p l e R s m args below meth c G A nL Q cells slots sh q μ ν lv (.int x :: st) pc := fun H locs ls hP hS hl => lv_i2d C.1 C.2.1 d (k H locs ls hP hS hl)
theorem x_d2l (C : xC p s m args meth c G A nL cc own Ts) {x : UInt64} (d : decode cc pc = .ok (.d2l, 1)) (k : xJ p l e R s m args below meth c G A nL Q cells slots sh q μ ν lv (.long (FP.d2l x) :: st) (pc + 1)) : xJ p l e R s m args below meth c G A nL Q cells slots sh q μ ν lv (.double x :: st) pc := fun H locs ls hP hS hl => lv_d2l C.1 C.2.1 d (k H locs ls hP hS hl)
theorem x_ddiv (C : xC p s m args meth c G A nL cc own Ts) {x y : UInt64} (d : decode cc pc = .ok (.ddiv, 1)) (hne : vf_n64 (FP.ddiv x y)) (k : xJ p l e R s m args below meth c G A nL Q cells slots sh q μ ν lv (.double (FP.ddiv x y) :: st) (pc + 1)) : xJ p l e R s m args below meth c G A nL Q cells slots sh q μ ν lv (.double y :: .double x :: st) pc := fun H locs ls hP hS hl => lv_ddiv C.1 C.2.1 d hne (k H locs ls hP hS hl)
theorem x_dsub (C : xC p s m args meth c G A nL cc own Ts) {x y : UInt64} (d : decode cc pc = .ok (.dsub, 1)) (hne : vf_n64 (FP.dsub x y)) (k : xJ p l e R s m args below meth c G A nL Q cells slots sh q μ ν lv (.double (FP.dsub x y) :: st) (pc + 1)) : xJ p l e R s m args below meth c G A nL Q cells slots sh q μ ν lv (.double y :: .double x :: st) pc := fun H locs ls hP hS hl => lv_dsub C.1 C.2.1 d hne (k H locs ls hP hS hl)
theorem x_dmul (C : xC p s m args meth c G A nL cc own Ts) {x y : UInt64} (d : decode cc pc = .ok (.dmul, 1)) (hne : vf_n64 (FP.dmul x y)) (k : xJ p l e R s m args below meth c G A nL Q cells slots sh q μ ν lv (.double (FP.dmul x y) :: st) (pc + 1)) : xJ p l e R s m args below meth c G A nL Q cells slots sh q μ ν lv (.double y :: .double x :: st) pc := fun H locs ls hP hS hl => lv_dmul C.1 C.2.1 d hne (k H locs ls hP hS hl)
theorem x_tin (C : xC p s m args meth c G A nL cc own Ts) {dflt lo hi : Int} {offs : Array Int} {len : Nat} {x v : Int32} {off : Int} {tgt : Nat} (d : decode cc pc = .ok (.tableswitch dflt lo hi offs, len)) (hx : x = v) (h1 : ¬ v.toInt < lo) (h2 : ¬ hi < v.toInt) (ho : offs[(v.toInt - lo).toNat]? = some off) (ht : (pc : Int) + off = (tgt : Int)) (k : xJ p l e R s m args below meth c G A nL Q cells slots sh q μ ν lv st tgt) : xJ p l e R s m args below meth c G A nL Q cells slots sh q μ ν lv (.int x :: st) pc := by
  subst hx
  exact fun H locs ls hP hS hl => lv_tableIn C.1 C.2.1 d h1 h2 ho ht (k H locs ls hP hS hl)
theorem x_tout (C : xC p s m args meth c G A nL cc own Ts) {dflt lo hi : Int} {offs : Array Int} {len : Nat} {x : Int32} {tgt : Nat} (d : decode cc pc = .ok (.tableswitch dflt lo hi offs, len)) (h : x.toInt < lo ∨ hi < x.toInt) (ht : (pc : Int) + dflt = (tgt : Int)) (k : xJ p l e R s m args below meth c G A nL Q cells slots sh q μ ν lv st tgt) : xJ p l e R s m args below meth c G A nL Q cells slots sh q μ ν lv (.int x :: st) pc := fun H locs ls hP hS hl => lv_tableOut C.1 C.2.1 d h ht (k H locs ls hP hS hl)
theorem x_look (C : xC p s m args meth c G A nL cc own Ts) {dflt : Int} {ps : Array (Int × Int)} {len : Nat} {x : Int32} {off : Int} {tgt : Nat} (d : decode cc pc = .ok (.lookupswitch dflt ps, len)) (hp : (ps.toList.zip (ps.toList.drop 1)).all (fun (a, next) => a.1 < next.1) = true) (ho : Op.lookupswitch.offset ps.toList dflt x.toInt = off) (ht : (pc : Int) + off = (tgt : Int)) (k : xJ p l e R s m args below meth c G A nL Q cells slots sh q μ ν lv st tgt) : xJ p l e R s m args below meth c G A nL Q cells slots sh q μ ν lv (.int x :: st) pc := fun H locs ls hP hS hl => lv_lookup C.1 C.2.1 d hp ho ht (k H locs ls hP hS hl)
theorem x_min (C : xC p s m args meth c G A nL cc own Ts) {index : Nat} {x y v : Int32} (hlink : Cond.methodLink own index Lib.Math.min.name ∈ Ts) (hstat : Cond.static Lib.Math.min.name ∈ Ts) (hini : Cond.initialized "java/lang/Math" ∈ Ts) (hcode : Cond.code Lib.Math.min.name Lib.Math.min.code 2 (some .int) ∈ Ts) (hf : 1 ≤ R.frames) (hl : (st.map fun v => v.category).sum + 13 ≤ R.locals) (hc : cells ≤ R.cells) (hs : slots ≤ R.slots) (d : decode cc pc = .ok (.invokestatic index, 3)) (hv : (if y < x then y else x) = v) (k : xJ p l e R s m args below meth c G A nL Q cells slots sh q μ ν lv (.int v :: st) (pc + 3)) : xJ p l e R s m args below meth c G A nL Q cells slots sh q μ ν lv (.int y :: .int x :: st) pc := by
  subst hv
  exact fun H locs ls hP hS hl9 => va_mmin C.1 C.2.1 (C.2.2.2.1.trans hl9.1.symm) C.2.2.2.2.1 (C.2.2.2.2.2.1 _ hlink) (C.2.2.2.2.2.1 _ hstat) (C.2.2.2.2.2.1 _ hini) (C.2.2.2.2.2.1 _ hcode) hf hl hc hs d (k H locs ls hP hS hl9)
theorem x_max (C : xC p s m args meth c G A nL cc own Ts) {index : Nat} {x y v : Int32} (hlink : Cond.methodLink own index Lib.Math.max.name ∈ Ts) (hstat : Cond.static Lib.Math.max.name ∈ Ts) (hini : Cond.initialized "java/lang/Math" ∈ Ts) (hcode : Cond.code Lib.Math.max.name Lib.Math.max.code 2 (some .int) ∈ Ts) (hf : 1 ≤ R.frames) (hl : (st.map fun v => v.category).sum + 13 ≤ R.locals) (hc : cells ≤ R.cells) (hs : slots ≤ R.slots) (d : decode cc pc = .ok (.invokestatic index, 3)) (hv : (if x < y then y else x) = v) (k : xJ p l e R s m args below meth c G A nL Q cells slots sh q μ ν lv (.int v :: st) (pc + 3)) : xJ p l e R s m args below meth c G A nL Q cells slots sh q μ ν lv (.int y :: .int x :: st) pc := by
  subst hv
  exact fun H locs ls hP hS hl9 => va_mmax C.1 C.2.1 (C.2.2.2.1.trans hl9.1.symm) C.2.2.2.2.1 (C.2.2.2.2.2.1 _ hlink) (C.2.2.2.2.2.1 _ hstat) (C.2.2.2.2.2.1 _ hini) (C.2.2.2.2.2.1 _ hcode) hf hl hc hs d (k H locs ls hP hS hl9)
theorem x_aload (C : xC p s m args meth c G A nL cc own Ts) {i : Nat} {x : Nat} (d : decode cc pc = .ok (.aload i, 2)) (a : Nat) (ha : lv[a]? = some (i, .ref x)) (k : xJ p l e R s m args below meth c G A nL Q cells slots sh q μ ν lv (.ref x :: st) (pc + 2)) : xJ p l e R s m args below meth c G A nL Q cells slots sh q μ ν lv st pc := fun H locs ls hP hS hl => lv_aload C.1 C.2.1 d (lv_at hl a ha) (k H locs ls hP hS hl)
theorem x_astore_n (C : xC p s m args meth c G A nL cc own Ts) {j : Fin 4} {i : Nat} {x : Nat} (d : decode cc pc = .ok (.astore_n j, 1)) (hi : (j : Nat) = i) (hn : i < nL) (ks : List Nat) (hk : lv_pick ((i, Value.ref x) :: lv.filter (fun q => !(q.1 == i) && !(q.1 + 1 == i && q.2.category == 2))) ks = lv') (k : xJ p l e R s m args below meth c G A nL Q cells slots sh q μ ν lv' st (pc + 1)) : xJ p l e R s m args below meth c G A nL Q cells slots sh q μ ν lv (.ref x :: st) pc := fun H locs ls hP hS hl => lv_astore_n C.1 C.2.1 d hi hl hn rfl (fun ls hl => k H locs ls hP hS (lv_sub hl ks hk))
theorem x_astore (C : xC p s m args meth c G A nL cc own Ts) {i : Nat} {x : Nat} (d : decode cc pc = .ok (.astore i, 2)) (hn : i < nL) (ks : List Nat) (hk : lv_pick ((i, Value.ref x) :: lv.filter (fun q => !(q.1 == i) && !(q.1 + 1 == i && q.2.category == 2))) ks = lv') (k : xJ p l e R s m args below meth c G A nL Q cells slots sh q μ ν lv' st (pc + 2)) : xJ p l e R s m args below meth c G A nL Q cells slots sh q μ ν lv (.ref x :: st) pc := fun H locs ls hP hS hl => lv_astore C.1 C.2.1 d hl hn rfl (fun ls hl => k H locs ls hP hS (lv_sub hl ks hk))
theorem x_dload (C : xC p s m args meth c G A nL cc own Ts) {i : Nat} {x : UInt64} (d : decode cc pc = .ok (.dload i, 2)) (a : Nat) (ha : lv[a]? = some (i, .double x)) (k : xJ p l e R s m args below meth c G A nL Q cells slots sh q μ ν lv (.double x :: st) (pc + 2)) : xJ p l e R s m args below meth c G A nL Q cells slots sh q μ ν lv st pc := fun H locs ls hP hS hl => lv_dload C.1 C.2.1 d (lv_at hl a ha) (k H locs ls hP hS hl)
theorem x_lload (C : xC p s m args meth c G A nL cc own Ts) {i : Nat} {x : Int64} (d : decode cc pc = .ok (.lload i, 2)) (a : Nat) (ha : lv[a]? = some (i, .long x)) (k : xJ p l e R s m args below meth c G A nL Q cells slots sh q μ ν lv (.long x :: st) (pc + 2)) : xJ p l e R s m args below meth c G A nL Q cells slots sh q μ ν lv st pc := fun H locs ls hP hS hl => lv_lload C.1 C.2.1 d (lv_at hl a ha) (k H locs ls hP hS hl)
theorem x_dcmp (C : xC p s m args meth c G A nL cc own Ts) {x y : UInt64} {op : CmpOp} (d : decode cc pc = .ok (.dcmp op, 1)) (k : xJ p l e R s m args below meth c G A nL Q cells slots sh q μ ν lv (.int (Op.cmpValue (FP.dcmp x y) op) :: st) (pc + 1)) : xJ p l e R s m args below meth c G A nL Q cells slots sh q μ ν lv (.double y :: .double x :: st) pc := fun H locs ls hP hS hl => lv_dcmp C.1 C.2.1 d (k H locs ls hP hS hl)
theorem x_lcmp (C : xC p s m args meth c G A nL cc own Ts) {x y : Int64} (d : decode cc pc = .ok (.lcmp, 1)) (k : xJ p l e R s m args below meth c G A nL Q cells slots sh q μ ν lv (.int (lg_cmp x y) :: st) (pc + 1)) : xJ p l e R s m args below meth c G A nL Q cells slots sh q μ ν lv (.long y :: .long x :: st) pc := fun H locs ls hP hS hl => W.lcmp C.1 C.2.1 d (k H locs ls hP hS hl)
theorem x_copy0 (C : xC p s m args meth c G A nL cc own Ts) (hq : gD A q sh.length) (k0 k1 : Nat) {N index : Nat} {x y z : Int32} (hs0 : sh[k0]? = some (.inl N)) (hs1 : sh[k1]? = some (.inl N)) (hx : x = Int32.ofNat N) (hy : y = 0) (hz : z = 0) (hN : N < 2 ^ 31) (hlink : Cond.methodLink own index arraycopyName ∈ Ts) (hnat : Cond.native arraycopyName ∈ Ts) (hstat : Cond.static arraycopyName ∈ Ts) (hini : Cond.initialized "java/lang/System" ∈ Ts) (hμ : μ' = g_set μ k1 (μ k0)) (hf : 1 ≤ R.frames) (hl : (st.map fun v => v.category).sum + (nativeFrameWords "java/lang/System" "arraycopy" 5 + 11) ≤ R.locals) (d : decode cc pc = .ok (.invokestatic index, 3)) (K : xJ p l e R s m args below meth c G A nL Q cells slots sh q μ' ν lv st (pc + 3)) : xJ p l e R s m args below meth c G A nL Q cells slots sh q μ ν lv (.int x :: .int z :: .ref (q k1) :: .int y :: .ref (q k0) :: st) pc := by
  intro H locs ls hP hS hl9
  subst hy; subst hz
  have hxN : x = nI N := hx
  have hxc : x.toNatClampNeg = N := by rw [hxN]; exact nI_clamp hN
  have h0 : (0 : Int32).toNatClampNeg = 0 := by decide
  refine va_copyi (D := G.1) (cl := vwCl) (tys := gT G) (ty := .int) C.1 C.2.1 (C.2.2.2.1.trans hl9.1.symm) C.2.2.2.2.1 (C.2.2.2.2.2.1 _ hlink) (C.2.2.2.2.2.1 _ hnat) (C.2.2.2.2.2.1 _ hstat) (C.2.2.2.2.2.1 _ hini) C.2.2.2.2.2.2.1 hP (gD_wd hq G μ ν) hS k0 k1 0 0 (wd_at hs0) (wd_at hs1) rfl rfl rfl (by decide) (by decide) (by rw [hxN]; exact nI_pos hN) (by rw [hxc, h0]; omega) (by rw [hxc, h0]; omega) (fun _ _ => rfl) hf hl d (fun H1 locs1 hP1 _ hS1 => K H1 locs1 ls ?_ hS1 hl9)
  have e1 : va_P G.1 vwCl (wd G q (g_set μ k1 (va_cpy (μ k0) (μ k1) 0 0 N)) ν 0 sh) H1 := by
    rw [hxc, h0] at hP1
    have e : g_cell G q (g_set μ k1 (va_cpy (μ k0) (μ k1) 0 0 N)) ν k1 (.inl N) = .inl (G.2.1, N, .inl (va_cpy (μ k0) (μ k1) 0 0 N)) := by
      unfold g_cell; rw [g_set_s]
    rw [← wd_set (μ' := g_set μ k1 (va_cpy (μ k0) (μ k1) 0 0 N)) (ν' := ν) hs1 (fun j hj => ⟨g_set_n hj, rfl⟩), e]
    exact hP1
  refine wd_cong (μ := g_set μ k1 (va_cpy (μ k0) (μ k1) 0 0 N)) (ν := ν) (fun k n hk j hj => ?_) (fun k d' hd' hn => ?_) e1
  · by_cases hkk : k = k1
    · subst hkk
      have : n = N := by have := hk.symm.trans hs1; simpa using this
      subst this
      rw [hμ, g_set_s, g_set_s]
      simp [va_cpy, hj]
    · rw [hμ, g_set_n hkk, g_set_n hkk]
  · have hkk : k ≠ k1 := fun h => by subst h; exact hn N (Option.some.inj (hd'.symm.trans hs1))
    exact ⟨by rw [hμ, g_set_n hkk, g_set_n hkk], rfl⟩
theorem x_ldc (C : xC p s m args meth c G A nL cc own Ts) {index : Nat} {v : Int32} (hc : Cond.constant own index v ∈ Ts) (d : decode cc pc = .ok (.ldc index, 2)) (k : xJ p l e R s m args below meth c G A nL Q cells slots sh q μ ν lv (.int v :: st) (pc + 2)) : xJ p l e R s m args below meth c G A nL Q cells slots sh q μ ν lv st pc := fun H locs ls hP hS hl => lv_ldc C.1 C.2.1 C.2.2.2.2.1 (C.2.2.2.2.2.1 _ hc) d (k H locs ls hP hS hl)
theorem x_ldcw (C : xC p s m args meth c G A nL cc own Ts) {index : Nat} {v : Int32} (hc : Cond.constant own index v ∈ Ts) (d : decode cc pc = .ok (.ldc_w index, 3)) (k : xJ p l e R s m args below meth c G A nL Q cells slots sh q μ ν lv (.int v :: st) (pc + 3)) : xJ p l e R s m args below meth c G A nL Q cells slots sh q μ ν lv st pc := fun H locs ls hP hS hl => lv_ldcw C.1 C.2.1 C.2.2.2.2.1 (C.2.2.2.2.2.1 _ hc) d (k H locs ls hP hS hl)
theorem x_ldc2 (C : xC p s m args meth c G A nL cc own Ts) {index : Nat} {v : Int64} (hc : Cond.constantLong own index v ∈ Ts) (d : decode cc pc = .ok (.ldc2_w index, 3)) (k : xJ p l e R s m args below meth c G A nL Q cells slots sh q μ ν lv (.long v :: st) (pc + 3)) : xJ p l e R s m args below meth c G A nL Q cells slots sh q μ ν lv st pc := fun H locs ls hP hS hl => lv_ldc2 C.1 C.2.1 C.2.2.2.2.1 (C.2.2.2.2.2.1 _ hc) d (k H locs ls hP hS hl)
theorem x_ldc2d (C : xC p s m args meth c G A nL cc own Ts) {index : Nat} {v : UInt64} (hc : Cond.constantDouble own index v ∈ Ts) (d : decode cc pc = .ok (.ldc2_w index, 3)) (k : xJ p l e R s m args below meth c G A nL Q cells slots sh q μ ν lv (.double v :: st) (pc + 3)) : xJ p l e R s m args below meth c G A nL Q cells slots sh q μ ν lv st pc := fun H locs ls hP hS hl => lv_ldc2d C.1 C.2.1 C.2.2.2.2.1 (C.2.2.2.2.2.1 _ hc) d (k H locs ls hP hS hl)
theorem x_dconst1 (C : xC p s m args meth c G A nL cc own Ts) (d : decode cc pc = .ok (.dconst 1, 1)) (k : xJ p l e R s m args below meth c G A nL Q cells slots sh q μ ν lv (.double FP.dconst1 :: st) (pc + 1)) : xJ p l e R s m args below meth c G A nL Q cells slots sh q μ ν lv st pc := fun H locs ls hP hS hl => lv_dconst1 C.1 C.2.1 d (k H locs ls hP hS hl)
theorem x_d2raw (C : xC p s m args meth c G A nL cc own Ts) {index : Nat} {b : UInt64} (h1 : Cond.methodLink own index ⟨"java/lang/Double", "doubleToRawLongBits", "(D)J"⟩ ∈ Ts) (h2 : Cond.native ⟨"java/lang/Double", "doubleToRawLongBits", "(D)J"⟩ ∈ Ts) (h3 : Cond.static ⟨"java/lang/Double", "doubleToRawLongBits", "(D)J"⟩ ∈ Ts) (h4 : Cond.initialized "java/lang/Double" ∈ Ts) (hf : 1 ≤ R.frames) (hl : (st.map fun v => v.category).sum + 15 ≤ R.locals) (d : decode cc pc = .ok (.invokestatic index, 3)) (k : xJ p l e R s m args below meth c G A nL Q cells slots sh q μ ν lv (.long b.toInt64 :: st) (pc + 3)) : xJ p l e R s m args below meth c G A nL Q cells slots sh q μ ν lv (.double b :: st) pc := fun H locs ls hP hS hl9 => vn_d2l C.1 C.2.1 (C.2.2.2.1.trans hl9.1.symm) C.2.2.2.2.1 (C.2.2.2.2.2.1 _ h1) (C.2.2.2.2.2.1 _ h2) (C.2.2.2.2.2.1 _ h3) (C.2.2.2.2.2.1 _ h4) hf hl d (k H locs ls hP hS hl9)
theorem x_lstore (C : xC p s m args meth c G A nL cc own Ts) {i : Nat} {x : Int64} (d : decode cc pc = .ok (.lstore i, 2)) (hn : i + 1 < nL) (ks : List Nat) (hk : lv_pick ((i, Value.long x) :: lv.filter (fun q => !(q.1 == i) && (!(q.1 == i + 1) && !(q.1 + 1 == i && q.2.category == 2)))) ks = lv') (k : xJ p l e R s m args below meth c G A nL Q cells slots sh q μ ν lv' st (pc + 2)) : xJ p l e R s m args below meth c G A nL Q cells slots sh q μ ν lv (.long x :: st) pc := fun H locs ls hP hS hl => lv_lstore C.1 C.2.1 d hl hn rfl (fun ls hl => k H locs ls hP hS (lv_sub hl ks hk))
theorem x_dstore (C : xC p s m args meth c G A nL cc own Ts) {i : Nat} {x : UInt64} (d : decode cc pc = .ok (.dstore i, 2)) (hn : i + 1 < nL) (ks : List Nat) (hk : lv_pick ((i, Value.double x) :: lv.filter (fun q => !(q.1 == i) && (!(q.1 == i + 1) && !(q.1 + 1 == i && q.2.category == 2)))) ks = lv') (k : xJ p l e R s m args below meth c G A nL Q cells slots sh q μ ν lv' st (pc + 2)) : xJ p l e R s m args below meth c G A nL Q cells slots sh q μ ν lv (.double x :: st) pc := fun H locs ls hP hS hl => lv_dstore C.1 C.2.1 d hl hn rfl (fun ls hl => k H locs ls hP hS (lv_sub hl ks hk))
end XM
theorem g_nz {v : Int32} (h : v = 0 ∨ v = 1) : narrow .boolean (.int v) = .int v := by
  rcases h with rfl | rfl <;> rfl
theorem g_fz {v : Int32} (h : v = 0 ∨ v = 1) : fits .boolean (.int v) = true := by
  rcases h with rfl | rfl <;> rfl
end
