/-! constructors: cells that are made -/
theorem wd_push {G : gG} {sh : List gC} {q q' : Nat → Nat} {μ μ' : gM} {ν ν' : gN} {d : gC} {a : Nat} (hwf : g_wf sh = true) (hq : ∀ k, k < sh.length → q' k = q k) (ha : q' sh.length = a) (hμ : ∀ k, k < sh.length → μ' k = μ k ∧ ν' k = ν k) : wd G q' μ' ν' 0 (sh ++ [d]) = wd G q μ ν 0 sh ++ [(a, g_cell G q' μ' ν' sh.length d)] := by
  apply List.ext_getElem?
  intro k
  rw [wd_get]
  have hlen : (wd G q μ ν 0 sh).length = sh.length := by
    have hb : ∀ (sh : List gC) (b : Nat), (wd G q μ ν b sh).length = sh.length := by
      intro sh
      induction sh with
      | nil => intro b; rfl
      | cons d ds ih => intro b; simp [wd, ih (b + 1)]
    exact hb sh 0
  by_cases hk : k < sh.length
  · rw [List.getElem?_append_left hk, List.getElem?_append_left (by rw [hlen]; exact hk), wd_get]
    cases hd : sh[k]? with
    | none => rfl
    | some e =>
      simp only [Option.map_some, Nat.zero_add]
      rw [hq k hk, g_cell_cong (hμ k hk).1 (hμ k hk).2, g_cell_q (q2 := q) (fun j hj => hq j (g_wf_at hwf hd j hj))]
  · rw [List.getElem?_append_right (Nat.not_lt.mp hk), List.getElem?_append_right (by rw [hlen]; exact Nat.not_lt.mp hk), hlen]
    by_cases hk2 : k = sh.length
    · subst hk2
      simp [ha]
    · have : k - sh.length ≠ 0 := by omega
      obtain ⟨j, hj⟩ := Nat.exists_eq_succ_of_ne_zero this
      rw [hj]; simp
theorem gD_push {A : Nat → Prop} {G : gG} {sh : List gC} {q q' : Nat → Nat} {μ : gM} {ν : gN} {a : Nat} {e : va_E} (hq : ∀ k, k < sh.length → q' k = q k) (ha : q' sh.length = a) (h : va_D A (wd G q μ ν 0 sh ++ [(a, e)])) : gD A q' (sh.length + 1) := by
  have hlen : (wd G q μ ν 0 sh).length = sh.length := by
    have hb : ∀ (sh : List gC) (b : Nat), (wd G q μ ν b sh).length = sh.length := by
      intro sh
      induction sh with
      | nil => intro b; rfl
      | cons d ds ih => intro b; simp [wd, ih (b + 1)]
    exact hb sh 0
  have hat : ∀ k, k < sh.length + 1 → ∃ e2, (wd G q μ ν 0 sh ++ [(a, e)])[k]? = some (q' k, e2) := fun k hk => by
    by_cases h1 : k < sh.length
    · rw [List.getElem?_append_left (by rw [hlen]; exact h1), wd_at (List.getElem?_eq_getElem h1), hq k h1]
      exact ⟨_, rfl⟩
    · have h2 : k = sh.length := by omega
      subst h2
      rw [List.getElem?_append_right (by rw [hlen]; exact Nat.le_refl _), hlen, Nat.sub_self, ha]
      exact ⟨e, rfl⟩
  refine ⟨fun i j hi hj hij => ?_, fun k hk => ?_⟩
  · obtain ⟨e1, h1⟩ := hat i hi
    obtain ⟨e2, h2⟩ := hat j hj
    exact h.1 i j _ _ h1 h2 hij
  · obtain ⟨e1, h1⟩ := hat k hk
    exact h.2 k _ h1
def g_shf (L : Nat) (d : gC) : gC := match d with
  | .inl n => .inl n
  | .inr (.inl o) => .inr (.inl (o.1, o.2.map (fun f => match f with | .inl j => .inl (j + L) | .inr b => .inr b)))
  | .inr (.inr (.inl ids)) => .inr (.inr (.inl (ids.map (Option.map (· + L)))))
  | .inr (.inr (.inr n)) => .inr (.inr (.inr n))
def g_app {α : Type} (L : Nat) (f g : Nat → α) : Nat → α := fun k => if k < L then f k else g (k - L)
theorem g_cell_shf {G : gG} {q q1 : Nat → Nat} {μ : gM} {ν : gN} {k L : Nat} {d : gC} {f : Nat → Int32} {h : Nat → Int64} {μ1 : gM} {ν1 : gN} (hq : ∀ j, q (j + L) = q1 j) (h1 : μ (k + L) = μ1 k) (h2 : ν (k + L) = ν1 k) : g_cell G q μ ν (k + L) (g_shf L d) = g_cell G q1 μ1 ν1 k d := by
  have hf : ∀ (fs : List gF) (f : Nat → Int32) (h : Nat → Int64) (b : Nat), g_flds q f h b (fs.map (fun f => match f with | .inl j => .inl (j + L) | .inr b => .inr b)) = g_flds q1 f h b fs := by
    intro fs
    induction fs with
    | nil => intro f h b; rfl
    | cons d fs ih =>
      intro f h b
      simp only [List.map_cons, g_flds, ih f h (b + 1)]
      congr 1
      rcases d with j | (_ | (_ | _))
      · simp only [g_fld, hq]
      · rfl
      · rfl
      · rfl
  rcases d with n | (o | (ids | n))
  · simp only [g_shf, g_cell, h1]
  · simp only [g_shf, g_cell, h1, h2, hf]
  · simp only [g_shf, g_cell, List.length_map]
    congr 7
    funext i
    simp only [List.getD, List.getElem?_map]
    cases ids[i]? with
    | none => rfl
    | some x =>
      cases x with
      | none => rfl
      | some j => show some (q (j + L)) = some (q1 j); rw [hq]
  · simp only [g_shf, g_cell, h2]
def gQc (G : gG) (sh' : List gC) (q : Nat → Nat) (n0 : Nat) (μ' : gM) (ν' : gN) (sz : Nat) : Array Value → State → Outcome → State → Prop := va_Qv (fun (q' : Nat → Nat) => (∀ k, k < n0 → q' k = q k) ∧ gD (gA q n0 sz) q' sh'.length) (fun q' t => va_P G.1 vwCl (wd G q' μ' ν' 0 sh') t.heap) (gA q n0 sz)
def gMc (l : Launch) (y : MethodName) (ws : List Cond) (rm : Room) (G : gG) (sh : List gC) (q : Nat → Nat) (μ : gM) (ν : gN) (av : List Value) (sh' : List gC) (μ' : gM) (ν' : gN) (mc ms : Nat) : Prop := ∀ sz : Nat, Met l y ws rm (gPc G sh q μ ν sz av) (gQc G sh' q sh.length μ' ν' sz) mc ms (gA q sh.length sz)
theorem g_metc {l : Launch} {y : MethodName} {ws ws' : List Cond} {rm : Room} {G : gG} {sh : List gC} {q : Nat → Nat} {μ : gM} {ν : gN} {av : List Value} {sz mc ms : Nat} {Qc : Nat → Array Value → State → Outcome → State → Prop} {cc : ByteArray} {maxL : Nat} {ret : Option FieldType} {own : String} (hy : plainName y.cls = true) (ho : y.cls = own) (hw : ws = Cond.code y cc maxL ret :: ws') (hlen : (lg_sl av).length ≤ maxL)
    (body : ∀ (p : Program) (e : Env) (s : State) (m : MethodId) (below : List Frame) (meth : Method) (c : Code), xC p s m av.toArray meth c G (gA q sh.length s.heap.size) maxL cc own ws → gD (gA q sh.length s.heap.size) q sh.length → meth.sig.returnType = ret → meth.name = y.name → xJ p l e rm s m av.toArray below meth c G (gA q sh.length s.heap.size) maxL (MQ below (Qc s.heap.size) av.toArray s mc ms (gA q sh.length s.heap.size)) 0 0 sh q μ ν (lv_args 0 av) [] 0) :
    Met l y ws rm (gPc G sh q μ ν sz av) (Qc sz) mc ms (gA q sh.length sz) := by
  refine Met.ofW (cc := cc) (maxL := maxL) (ret := ret) hy hw ?_
  intro p e s m args below meth c s₁ B hml hv
  obtain ⟨rfl, rfl, hP, hK, hD⟩ := hv
  have hts := atoms_spec (ws := ws) B.pre
  have hA : ∀ a : Nat, s.heap.size ≤ a → gA q sh.length s.heap.size a := fun a h => Or.inr h
  have C : xC p s m av.toArray meth c G (gA q sh.length s.heap.size) maxL cc own ws := ⟨B.exec, B.bytes, B.notSynchronized, hml, ho ▸ findClass_of_methodNamed B.named, hts, hK, hA⟩
  have hq : gD (gA q sh.length s.heap.size) q sh.length := ⟨hD, fun k hk => Or.inl ⟨k, hk, rfl⟩⟩
  have hl := lv_entry av (n := maxL) hlen
  rw [lg_entry_eq]
  exact body p e s m below meth c C hq B.returns (name_of_methodNamed B.named B.method).1 s.heap [] _ hP va_S.rf hl
def gE (U : State) : Prop := va_AO "HintedPages$Store" U ∧ va_Nw (.methodLinkNest RX2 36 yX0_init "HintedPages") U
theorem gE_to {s U : State} (hW : s.WarmedH U.vm) (h : gE s) : gE U := ⟨va_AO.moved hW.alike h.1, va_Nw.warmM hW h.2⟩
theorem gE_calling {U : State} {g : JFrame} {mk : MethodId} {a : Array Value} (h : gE U) : gE (U.calling g mk a) := ⟨va_AO.moved (u := U) (U := U.calling g mk a) (Vm.Alike.refl U.vm) h.1, va_Nw.same (u := U) (U := U.calling g mk a) rfl rfl h.2⟩
def gPe (G : gG) (sh : List gC) (q : Nat → Nat) (μ : gM) (ν : gN) (sz : Nat) (av : List Value) : Array Value → State → Prop := fun v U => gPc G sh q μ ν sz av v U ∧ gE U
theorem g_blinde {G : gG} {sh : List gC} {q : Nat → Nat} {μ : gM} {ν : gN} {sz : Nat} {av : List Value} : FrameBlind (gPe G sh q μ ν sz av) := fun a U g mk h => ⟨g_blind a U g mk h.1, gE_calling h.2⟩
def gMe (l : Launch) (y : MethodName) (ws : List Cond) (rm : Room) (G : gG) (sh : List gC) (q : Nat → Nat) (μ : gM) (ν : gN) (av : List Value) (sh' : List gC) (μ' : gM) (ν' : gN) (mc ms : Nat) : Prop := ∀ sz : Nat, Met l y ws rm (gPe G sh q μ ν sz av) (gQc G sh' q sh.length μ' ν' sz) mc ms (gA q sh.length sz)
theorem g_mete {l : Launch} {y : MethodName} {ws ws' : List Cond} {rm : Room} {G : gG} {sh : List gC} {q : Nat → Nat} {μ : gM} {ν : gN} {av : List Value} {sz mc ms : Nat} {Qc : Nat → Array Value → State → Outcome → State → Prop} {cc : ByteArray} {maxL : Nat} {ret : Option FieldType} {own : String} (hy : plainName y.cls = true) (ho : y.cls = own) (hw : ws = Cond.code y cc maxL ret :: ws') (hlen : (lg_sl av).length ≤ maxL)
    (body : ∀ (p : Program) (e : Env) (s : State) (m : MethodId) (below : List Frame) (meth : Method) (c : Code), xC p s m av.toArray meth c G (gA q sh.length s.heap.size) maxL cc own ws → gD (gA q sh.length s.heap.size) q sh.length → gE s → meth.sig.returnType = ret → meth.name = y.name → xJ p l e rm s m av.toArray below meth c G (gA q sh.length s.heap.size) maxL (MQ below (Qc s.heap.size) av.toArray s mc ms (gA q sh.length s.heap.size)) 0 0 sh q μ ν (lv_args 0 av) [] 0) :
    Met l y ws rm (gPe G sh q μ ν sz av) (Qc sz) mc ms (gA q sh.length sz) := by
  refine Met.ofW (cc := cc) (maxL := maxL) (ret := ret) hy hw ?_
  intro p e s m args below meth c s₁ B hml hv
  obtain ⟨⟨rfl, rfl, hP, hK, hD⟩, hE⟩ := hv
  have hts := atoms_spec (ws := ws) B.pre
  have hA : ∀ a : Nat, s.heap.size ≤ a → gA q sh.length s.heap.size a := fun a h => Or.inr h
  have C : xC p s m av.toArray meth c G (gA q sh.length s.heap.size) maxL cc own ws := ⟨B.exec, B.bytes, B.notSynchronized, hml, ho ▸ findClass_of_methodNamed B.named, hts, hK, hA⟩
  have hq : gD (gA q sh.length s.heap.size) q sh.length := ⟨hD, fun k hk => Or.inl ⟨k, hk, rfl⟩⟩
  have hl := lv_entry av (n := maxL) hlen
  rw [lg_entry_eq]
  exact body p e s m below meth c C hq hE B.returns (name_of_methodNamed B.named B.method).1 s.heap [] _ hP va_S.rf hl
section XCN
variable {p : Program} {l : Launch} {e : Env} {R : Room} {s : State} {m : MethodId} {args : Array Value} {below : List Frame} {meth : Method} {c : Code} {G : gG} {A : Nat → Prop} {nL : Nat} {Q : State → Prop} {cells slots : Nat} {sh sh' sh0 sh1 : List gC} {q q' : Nat → Nat} {μ μ' μ1 : gM} {ν ν' ν1 : gN} {lv lv' : List (Nat × Value)} {st st' : List Value} {pc : Nat}
variable {cc : ByteArray} {own : String} {Ts : List Cond}
theorem x_newi (C : xC p s m args meth c G A nL cc own Ts) (hq : gD A q sh.length) (hwf : g_wf sh = true) {n : Int32} {N' L : Nat} (harr : Cond.arrayClass .int ∈ Ts) (hn : ¬ n < 0) (hN : n.toNatClampNeg = N') (hbytes : N' * 4 ≤ 536870912) (hcells : cells + 1 ≤ R.cells) (hslots : slots + N' ≤ R.slots) (hdg : decode cc pc = .ok (.newarray .int, 2)) (hL : sh.length = L) (hsh : sh' = sh ++ [.inl N']) (K : ∀ q', (∀ k, k < L → q' k = q k) → gD A q' sh'.length → xJ p l e R s m args below meth c G A nL Q (cells + 1) (slots + N') sh' q' (g_set μ L (fun _ => 0)) ν lv (.ref (q' L) :: st) (pc + 2)) : xJ p l e R s m args below meth c G A nL Q cells slots sh q μ ν lv (.int n :: st) pc := by
  intro H locs ls hP hS hl
  refine va_newa (D := G.1) (cl := vwCl) (tys := gT G) (atype := .int) (ty := .int) (a0 := (N', .inl (fun _ => 0))) C.1 C.2.1 (C.2.2.2.2.2.1 _ harr) rfl C.2.2.2.2.2.2.1 hP (gD_wd hq G μ ν) hS C.2.2.2.2.2.2.2 (fun cA => rfl) hn hN hbytes hcells hslots hdg (fun a cA H1 hK1 hP1 hD1 hS1 => ?_)
  have hcA : cA = G.2.1 := by
    have h1 : s.vm.findClass ("[" ++ FieldType.int.toString) = some cA := (hK1.2 3 _ rfl).2
    have h2 : s.vm.findClass ("[" ++ FieldType.int.toString) = some G.2.1 := (hK1.2 0 _ rfl).2
    exact Option.some.inj (h1.symm.trans h2)
  subst hcA
  subst hL; subst hsh
  have e1 : ∀ k, k < sh.length → (fun k => if k = sh.length then a else q k) k = q k := fun k hk => if_neg (by omega)
  have e2 : (fun k => if k = sh.length then a else q k) sh.length = a := if_pos rfl
  have hw := wd_push (G := G) (sh := sh) (q := q) (q' := fun k => if k = sh.length then a else q k) (μ := μ) (μ' := g_set μ sh.length (fun _ => 0)) (ν := ν) (ν' := ν) (d := .inl N') hwf e1 e2 (fun k hk => ⟨g_set_n (by omega), rfl⟩)
  have hc : g_cell G (fun k => if k = sh.length then a else q k) (g_set μ sh.length (fun _ => 0)) ν sh.length (.inl N') = .inl (G.2.1, N', .inl (fun _ => 0)) := by
    unfold g_cell; rw [g_set_s]
  have hst : (Value.ref a) = .ref ((fun k => if k = sh.length then a else q k) sh.length) := by rw [e2]
  rw [hst]
  exact K (fun k => if k = sh.length then a else q k) e1 (by rw [List.length_append]; exact gD_push e1 e2 hD1) H1 locs ls (by rw [hw, hc]; exact hP1) hS1 hl
theorem x_newq (C : xC p s m args meth c G A nL cc own Ts) (hq : gD A q sh.length) (hwf : g_wf sh = true) {n : Int32} {N' L index : Nat} (hlink : Cond.classLink own index "HintedPages$Store" ∈ Ts) (hover : va_AO "HintedPages$Store" s) (hn : ¬ n < 0) (hN : n.toNatClampNeg = N') (hbytes : N' * 4 ≤ 536870912) (hcells : cells + 1 ≤ R.cells) (hslots : slots + N' ≤ R.slots) (hdg : decode cc pc = .ok (.anewarray index, 3)) (hL : sh.length = L) (hsh : sh' = sh ++ [.inr (.inr (.inl (List.replicate N' none)))]) (K : ∀ q', (∀ k, k < L → q' k = q k) → gD A q' sh'.length → xJ p l e R s m args below meth c G A nL Q (cells + 1) (slots + N') sh' q' μ ν lv (.ref (q' L) :: st) (pc + 3)) : xJ p l e R s m args below meth c G A nL Q cells slots sh q μ ν lv (.int n :: st) pc := by
  intro H locs ls hP hS hl
  refine va_newq (D := G.1) (cl := vwCl) (tys := gT G) C.1 C.2.1 C.2.2.2.2.1 (C.2.2.2.2.2.1 _ hlink) hover C.2.2.2.2.2.2.1 hP (gD_wd hq G μ ν) hS C.2.2.2.2.2.2.2 hn hN hbytes hcells hslots hdg (fun a cA H1 hK1 hP1 hD1 hS1 => ?_)
  have hcA : cA = G.2.2.2 := by
    obtain ⟨kA, comp, -, -, -, h1⟩ := (hK1.2 3 _ rfl).2
    obtain ⟨kB, comp2, -, -, -, h2⟩ := (hK1.2 2 _ rfl).2
    exact Option.some.inj (h1.symm.trans h2)
  subst hcA
  subst hL; subst hsh
  have e1 : ∀ k, k < sh.length → (fun k => if k = sh.length then a else q k) k = q k := fun k hk => if_neg (by omega)
  have e2 : (fun k => if k = sh.length then a else q k) sh.length = a := if_pos rfl
  have hw := wd_push (G := G) (sh := sh) (q := q) (q' := fun k => if k = sh.length then a else q k) (μ := μ) (μ' := μ) (ν := ν) (ν' := ν) (d := .inr (.inr (.inl (List.replicate N' none)))) hwf e1 e2 (fun k hk => ⟨rfl, rfl⟩)
  have hc : g_cell G (fun k => if k = sh.length then a else q k) μ ν sh.length (.inr (.inr (.inl (List.replicate N' none)))) = .inl (G.2.2.2, N', .inr (.inr (.inr (.inr (fun _ => none))))) := by
    simp only [g_cell, List.length_replicate]
    congr 7
    funext i
    simp only [List.getD, List.getElem?_replicate]
    split <;> rfl
  have hst : (Value.ref a) = .ref ((fun k => if k = sh.length then a else q k) sh.length) := by rw [e2]
  rw [hst]
  exact K (fun k => if k = sh.length then a else q k) e1 (by rw [List.length_append]; exact gD_push e1 e2 hD1) H1 locs ls (by rw [hw, hc]; exact hP1) hS1 hl
theorem x_newo (C : xC p s m args meth c G A nL cc own Ts) (hq : gD A q sh.length) (hwf : g_wf sh = true) {CN : String} {T : u_T} {N ci index L : Nat} {fds : List gF} (ty : Nat → FieldType) (hty : ∀ k, k < N → parseFieldDescriptor (T k).2.2.1 = some (ty k)) (hin : ∀ w ∈ u_ws CN T N, w ∈ Ts) (hcl : Cond.classLink own index CN ∈ Ts) (hinst : Cond.instantiable CN N ∈ Ts) (hini : Cond.initialized CN ∈ Ts) (hc : vwCl[ci]? = some (CN, T, N)) (hfs : ∀ j, j < N → defaultValue (ty j) = vp_V (g_flds (fun _ => 0) (fun _ => 0) (fun _ => 0) 0 fds) j) (hnr : (g_refs (.inr (.inl (ci, fds)))) = []) (hcells : cells + 1 ≤ R.cells) (hslots : slots + N ≤ R.slots) (hdg : decode cc pc = .ok (.new index, 3)) (hL : sh.length = L) (hsh : sh' = sh ++ [.inr (.inl (ci, fds))]) (K : ∀ q', (∀ k, k < L → q' k = q k) → gD A q' sh'.length → xJ p l e R s m args below meth c G A nL Q (cells + 1) (slots + N) sh' q' (g_set μ L (fun _ => 0)) (g_setN ν L (fun _ => 0)) lv (.ref (q' L) :: st) (pc + 3)) : xJ p l e R s m args below meth c G A nL Q cells slots sh q μ ν lv st pc := by
  intro H locs ls hP hS hl
  refine va_new (D := G.1) (cl := vwCl) (tys := gT G) (ci := ci) (fs := g_flds (fun _ => 0) (fun _ => 0) (fun _ => 0) 0 fds) (C := CN) (T := T) (N := N) C.1 C.2.1 C.2.2.2.2.2.1 hin ty hty C.2.2.2.2.1 (C.2.2.2.2.2.1 _ hcl) (C.2.2.2.2.2.1 _ hinst) (C.2.2.2.2.2.1 _ hini) C.2.2.2.2.2.2.1 hP (gD_wd hq G μ ν) hS C.2.2.2.2.2.2.2 hc hfs hcells hslots hdg (fun a H1 hP1 hD1 hS1 => ?_)
  subst hL; subst hsh
  have e1 : ∀ k, k < sh.length → (fun k => if k = sh.length then a else q k) k = q k := fun k hk => if_neg (by omega)
  have e2 : (fun k => if k = sh.length then a else q k) sh.length = a := if_pos rfl
  have hw := wd_push (G := G) (sh := sh) (q := q) (q' := fun k => if k = sh.length then a else q k) (μ := μ) (μ' := g_set μ sh.length (fun _ => 0)) (ν := ν) (ν' := g_setN ν sh.length (fun _ => 0)) (d := .inr (.inl (ci, fds))) hwf e1 e2 (fun k hk => ⟨g_set_n (by omega), g_setN_n (by omega)⟩)
  have hce : g_cell G (fun k => if k = sh.length then a else q k) (g_set μ sh.length (fun _ => 0)) (g_setN ν sh.length (fun _ => 0)) sh.length (.inr (.inl (ci, fds))) = .inr (ci, g_flds (fun _ => 0) (fun _ => 0) (fun _ => 0) 0 fds) := by
    have h1 : g_cell G (fun k => if k = sh.length then a else q k) (g_set μ sh.length (fun _ => 0)) (g_setN ν sh.length (fun _ => 0)) sh.length (.inr (.inl (ci, fds))) = g_cell G (fun _ => 0) (g_set μ sh.length (fun _ => 0)) (g_setN ν sh.length (fun _ => 0)) sh.length (.inr (.inl (ci, fds))) := g_cell_q (fun j hj => by rw [hnr] at hj; cases hj)
    rw [h1]; unfold g_cell; rw [g_set_s, g_setN_s]
  have hst : (Value.ref a) = .ref ((fun k => if k = sh.length then a else q k) sh.length) := by rw [e2]
  rw [hst]
  exact K (fun k => if k = sh.length then a else q k) e1 (by rw [List.length_append]; exact gD_push e1 e2 hD1) H1 locs ls (by rw [hw, hce]; exact hP1) hS1 hl
theorem x_putrF (C : xC p s m args meth c G A nL cc own Ts) (hq : gD A q sh.length) (hname : meth.name = "<init>") {CN : String} {T : u_T} {N ci index j : Nat} {fs : List gF} {ty : FieldType} (ty0 : Nat → FieldType) (hty : ∀ k, k < N → parseFieldDescriptor (T k).2.2.1 = some (ty0 k)) (hnm : ∀ a, a < N → ∀ b, b < N → a ≠ b → (T a).2.1 ≠ (T b).2.1) (hin : ∀ w ∈ u_ws CN T N, w ∈ Ts) (k : Nat) (hs : sh[k]? = some (.inr (.inl (ci, fs)))) (hc : vwCl[ci]? = some (CN, T, N)) (i : Nat) (hi : i < N) (hlink : Cond.fieldLink own index (T i).1 (T i).2.1 (T i).2.2.1 ∈ Ts) (hfin : (T i).2.2.2 = true) (hdecl : (T i).1 = own) (hd : parseFieldDescriptor (T i).2.2.1 = some ty) (hn : narrow ty (.ref (q j)) = .ref (q j)) (hfit : fits ty (.ref (q j)) = true) (hl9 : i < fs.length) (hsh : sh' = sh.set k (.inr (.inl (ci, fs.set i (.inl j))))) (hdg : decode cc pc = .ok (.putfield index, 3)) (K : xJ p l e R s m args below meth c G A nL Q cells slots sh' q μ ν lv st (pc + 3)) : xJ p l e R s m args below meth c G A nL Q cells slots sh q μ ν lv (.ref (q j) :: .ref (q k) :: st) pc := by
  intro H locs ls hP hS hl
  refine va_putF (D := G.1) (cl := vwCl) (tys := gT G) (ci := ci) (fs := g_flds q (μ k) (ν k) 0 fs) (v := .ref (q j)) (ty := ty) (C := CN) (T := T) (N := N) C.1 C.2.1 C.2.2.2.2.2.1 hin ty0 hty hnm C.2.2.2.2.1 C.2.2.2.2.2.2.1 hP (gD_wd hq G μ ν) hS k (wd_at hs) hc i hi (C.2.2.2.2.2.1 _ hlink) (fun _ h => h) hfin hname hdecl hd hn hfit (by rw [g_flds_len]; exact hl9) hdg (fun H1 locs1 hP1 _ hS1 => K H1 locs1 ls ?_ hS1 hl)
  rw [g_flds_setr] at hP1
  have e : g_cell G q μ ν k (.inr (.inl (ci, fs.set i (.inl j)))) = .inr (ci, g_flds q (μ k) (ν k) 0 (fs.set i (.inl j))) := rfl
  rw [← e, wd_setsh hs] at hP1
  rw [hsh]
  exact hP1
theorem x_objInit (C : xC p s m args meth c G A nL cc own Ts) {a idx : Nat} (h1 : Cond.methodLink own idx Lib.objectInit ∈ Ts) (h2 : Cond.instanceMethod Lib.objectInit ∈ Ts) (h3 : Cond.code Lib.objectInit ⟨#[0xb1]⟩ 1 none ∈ Ts) (hdg : decode cc pc = .ok (.invokespecial idx, 3)) (hf : 1 ≤ R.frames) (hl : (st.map fun v => v.category).sum + 12 ≤ R.locals) (K : xJ p l e R s m args below meth c G A nL Q cells slots sh q μ ν lv st (pc + 3)) : xJ p l e R s m args below meth c G A nL Q cells slots sh q μ ν lv (.ref a :: st) pc := by
  intro H locs ls hP hS hl9
  refine W.objInit C.1 C.2.1 C.2.2.2.2.1 (C.2.2.2.2.2.1 _ h1) (C.2.2.2.2.2.1 _ h2) (C.2.2.2.2.2.1 _ h3) rfl (hl9.1.trans C.2.2.2.1.symm) rfl hdg hf (by show 2 * 0 + _ + 12 ≤ _; omega) ?_
  exact K H locs ls hP hS hl9
theorem g_cret (C : xC p s m args meth c G (gA q sh.length s.heap.size) nL cc own Ts) {sh9 : List gC} {n0 : Nat} (h0 : sh.length = n0) (hq : gD (gA q sh.length s.heap.size) q' sh9.length) (h4 : ∀ k, k < n0 → q' k = q k) (hr : meth.sig.returnType = none) (hdg : decode cc pc = .ok (.return_, 1)) (h2 : μ = μ') (h3 : ν = ν') : xJ p l e R s m args below meth c G (gA q sh.length s.heap.size) nL (MQ below (gQc G sh9 q sh.length μ' ν' s.heap.size) args s cells slots (gA q sh.length s.heap.size)) cells slots sh9 q' μ ν lv [] pc := by
  intro H locs ls hP hS hl
  subst h2; subst h3; subst h0
  exact W.vret C.1 C.2.1 hr (fun t ht hW => ⟨⟨q', rfl, ⟨h4, hq⟩, by show va_P _ _ _ t.heap; rw [ht]; exact hP⟩, hS.F ht⟩) hS.2.2 hdg C.2.2.1
variable {y : MethodName} {wsy : List Cond} {rm : Room} {index maxL mc ms L : Nat} {bytes : ByteArray} {d0 : gC}
theorem x_callIc (C : xC p s m args meth c G A nL cc own Ts) (hq : gD A q sh.length) (hwf0 : g_wf sh0 = true) (hsh : sh = sh0 ++ [d0]) (hL : sh0.length = L) (hnr : g_refs d0 = []) (hM : gMc l y wsy rm G [d0] (fun _ => q L) (fun _ => μ L) (fun _ => ν L) [.ref (q L)] sh1 μ1 ν1 mc ms) (cw : CallB R s args own index y bytes maxL none wsy rm mc ms 0 ∧ y.name = "<init>" ∧ (Cond.instanceMethod y).before args s = true) (hst : st = .ref (q L) :: st') (hsum : (st'.map fun v => v.category).sum ≤ 8) (hdg : decode cc pc = .ok (.invokespecial index, 3)) (hc : cells + mc ≤ R.cells) (hs : slots + ms ≤ R.slots) (hsh' : sh' = sh0 ++ sh1.map (g_shf L)) (K : ∀ q', (∀ k, k ≤ L → q' k = q k) → gD A q' sh'.length → xJ p l e R s m args below meth c G A nL Q (cells + mc) (slots + ms) sh' q' (g_app L μ μ1) (g_app L ν ν1) lv st' (pc + 3)) : xJ p l e R s m args below meth c G A nL Q cells slots sh q μ ν lv st pc := by
  intro H locs ls hP hS hl
  subst hst; subst hsh; subst hL; subst hsh'
  have hatL : (sh0 ++ [d0])[sh0.length]? = some d0 := by simp
  have hPL := hP sh0.length _ (wd_at hatL)
  have hlt : ∀ k, k < (sh0 ++ [d0]).length → q k < H.size := fun k hk => (hP k _ (wd_at (List.getElem?_eq_getElem hk))).lt
  have hlen : (sh0 ++ [d0]).length = sh0.length + 1 := by simp
  have hpre : PreS s H (gPc G [d0] (fun _ => q sh0.length) (fun _ => μ sh0.length) (fun _ => ν sh0.length) H.size [.ref (q sh0.length)]) [.ref (q sh0.length)] := by
    refine ⟨g_blind, fun U hU hW => ⟨rfl, by rw [hU], ?_, va_K.moved hW.alike C.2.2.2.2.2.2.1, fun i j hi hj _ => ?_⟩⟩
    · rw [hU]
      intro k z hz
      obtain ⟨d, hd, rfl⟩ := wd_of hz
      have hk0 : k = 0 := by have := g_lt hd; simpa using this
      subst hk0
      have hdd : d = d0 := by simpa using hd.symm
      subst hdd
      have e : g_cell G (fun _ => q sh0.length) (fun _ => μ sh0.length) (fun _ => ν sh0.length) 0 d = g_cell G q μ ν sh0.length d := by
        rw [g_cell_q (q2 := q) (fun j hj => by rw [hnr] at hj; cases hj)]
        rcases d with n | (o | (ids | n)) <;> rfl
      rw [e]; exact hPL
    · simp at hi hj; omega
  have hfr : ∀ a, gA (fun _ => q sh0.length) [d0].length H.size a → A a := by
    rintro a (⟨k, hk, rfl⟩ | h)
    · exact hq.2 sh0.length (by rw [hlen]; omega)
    · exact C.2.2.2.2.2.2.2 a (Nat.le_trans hS.1 h)
  exact va_callv (va_runI (As := []) (rest := st') ⟨C.1, C.2.1, C.2.2.2.1, C.2.2.2.2.1, C.2.2.2.2.2.1⟩ (hM H.size) cw hpre rfl rfl hl.1 rfl (lv_room hsum) hdg ⟨hc, hs⟩) hS (fun a _ h => hfr a h) hfr (fun q1 t H1 locs1 ht hvm hw hB hz hk hS1 => by
    have hB : va_P G.1 vwCl (wd G q1 μ1 ν1 0 sh1) t.heap := hB
    rw [ht] at hB
    have h10 : q1 0 = q sh0.length := hw.1 0 (by simp)
    have hd1 : gD (gA (fun _ => q sh0.length) 1 H.size) q1 sh1.length := hw.2
    have hge : ∀ j, j < sh1.length → ∀ i, i < sh0.length → g_app sh0.length q q1 i ≠ q1 j := fun j hj i hi e => by
      have e1 : g_app sh0.length q q1 i = q i := if_pos hi
      rw [e1] at e
      rcases hd1.2 j hj with ⟨k, -, h9⟩ | h9
      · have := hq.1 i sh0.length (by rw [hlen]; omega) (by rw [hlen]; omega) (e.trans h9)
        omega
      · rw [← e] at h9
        exact absurd (hlt i (by rw [hlen]; omega)) (Nat.not_lt.mpr h9)
    have hpos : 0 < sh1.length ∨ sh1.length = 0 := by omega
    refine K (g_app sh0.length q q1) (fun k hk9 => ?_) ⟨fun i j hi hj hij => ?_, fun k hk9 => ?_⟩ H1 locs1 ls ?_ hS1 hl
    · unfold g_app
      by_cases h1 : k < sh0.length
      · rw [if_pos h1]
      · have h2 : k = sh0.length := by omega
        subst h2
        rw [if_neg h1, Nat.sub_self, h10]
    · rw [List.length_append, List.length_map] at hi hj
      by_cases h1 : i < sh0.length
      · by_cases h2 : j < sh0.length
        · have e1 : g_app sh0.length q q1 i = q i := if_pos h1
          have e2 : g_app sh0.length q q1 j = q j := if_pos h2
          rw [e1, e2] at hij
          exact hq.1 i j (by rw [hlen]; omega) (by rw [hlen]; omega) hij
        · have e2 : g_app sh0.length q q1 j = q1 (j - sh0.length) := if_neg h2
          rw [e2] at hij
          exact absurd hij (hge _ (by omega) i h1)
      · have e1 : g_app sh0.length q q1 i = q1 (i - sh0.length) := if_neg h1
        by_cases h2 : j < sh0.length
        · rw [e1] at hij
          exact absurd hij.symm (hge _ (by omega) j h2)
        · have e2 : g_app sh0.length q q1 j = q1 (j - sh0.length) := if_neg h2
          rw [e1, e2] at hij
          have := hd1.1 _ _ (by omega) (by omega) hij
          omega
    · rw [List.length_append, List.length_map] at hk9
      unfold g_app
      by_cases h1 : k < sh0.length
      · rw [if_pos h1]; exact hq.2 k (by rw [hlen]; omega)
      · rw [if_neg h1]; exact hfr _ (hd1.2 _ (by omega))
    · intro k z hz9
      obtain ⟨d, hd, rfl⟩ := wd_of hz9
      by_cases h1 : k < sh0.length
      · have hd' : sh0[k]? = some d := by rw [List.getElem?_append_left h1] at hd; exact hd
        have h2 := hP k _ (wd_at (by rw [List.getElem?_append_left h1]; exact hd'))
        have e1 : g_app sh0.length q q1 k = q k := if_pos h1
        have e2 : g_app sh0.length μ μ1 k = μ k := if_pos h1
        have e3 : g_app sh0.length ν ν1 k = ν k := if_pos h1
        rw [e1, g_cell_cong e2 e3, g_cell_q (q1 := g_app sh0.length q q1) (q2 := q) (fun j hj => if_pos (g_wf_at hwf0 hd' j hj))]
        refine h2.kept (hk _ h2.lt ?_)
        rintro (⟨j, -, h9⟩ | h9)
        · have := hq.1 k sh0.length (by rw [hlen]; omega) (by rw [hlen]; omega) h9
          omega
        · exact absurd h2.lt (Nat.not_lt.mpr h9)
      · rw [List.getElem?_append_right (Nat.not_lt.mp h1), List.getElem?_map] at hd
        cases hd9 : sh1[k - sh0.length]? with
        | none => rw [hd9] at hd; cases hd
        | some d1 =>
          rw [hd9] at hd
          have hdd : d = g_shf sh0.length d1 := (Option.some.inj hd).symm
          subst hdd
          have h2 := hB _ _ (wd_at hd9)
          obtain ⟨j, rfl⟩ : ∃ j, k = j + sh0.length := ⟨k - sh0.length, by omega⟩
          rw [Nat.add_sub_cancel] at h2
          have e0 : ∀ {α : Type} (f g : Nat → α) (i : Nat), g_app sh0.length f g (i + sh0.length) = g i := fun f g i => by
            unfold g_app; rw [if_neg (by omega), Nat.add_sub_cancel]
          rw [g_cell_shf (q1 := q1) (μ1 := μ1) (ν1 := ν1) (f := fun _ => 0) (h := fun _ => 0) (e0 q q1) (e0 μ μ1 j) (e0 ν ν1 j), e0 q q1 j]
          exact h2)
theorem x_callIn (C : xC p s m args meth c G A nL cc own Ts) (hq : gD A q sh.length) (hwf0 : g_wf sh0 = true) (hsh : sh = sh0 ++ [d0]) (hL : sh0.length = L) (hnr : g_refs d0 = []) (hM : gMc l y wsy rm G [d0] (fun _ => q L) (fun _ => μ L) (fun _ => ν L) [.ref (q L)] sh1 μ1 ν1 mc ms) {host : String} (cw : va_CN R s args own index y host bytes maxL none wsy rm mc ms 0 ∧ y.name = "<init>" ∧ (Cond.instanceMethod y).before args s = true) (hst : st = .ref (q L) :: st') (hsum : (st'.map fun v => v.category).sum ≤ 8) (hdg : decode cc pc = .ok (.invokespecial index, 3)) (hc : cells + mc ≤ R.cells) (hs : slots + ms ≤ R.slots) (hsh' : sh' = sh0 ++ sh1.map (g_shf L)) (K : ∀ q', (∀ k, k ≤ L → q' k = q k) → gD A q' sh'.length → xJ p l e R s m args below meth c G A nL Q (cells + mc) (slots + ms) sh' q' (g_app L μ μ1) (g_app L ν ν1) lv st' (pc + 3)) : xJ p l e R s m args below meth c G A nL Q cells slots sh q μ ν lv st pc := by
  intro H locs ls hP hS hl
  subst hst; subst hsh; subst hL; subst hsh'
  have hatL : (sh0 ++ [d0])[sh0.length]? = some d0 := by simp
  have hPL := hP sh0.length _ (wd_at hatL)
  have hlt : ∀ k, k < (sh0 ++ [d0]).length → q k < H.size := fun k hk => (hP k _ (wd_at (List.getElem?_eq_getElem hk))).lt
  have hlen : (sh0 ++ [d0]).length = sh0.length + 1 := by simp
  have hpre : PreS s H (gPc G [d0] (fun _ => q sh0.length) (fun _ => μ sh0.length) (fun _ => ν sh0.length) H.size [.ref (q sh0.length)]) [.ref (q sh0.length)] := by
    refine ⟨g_blind, fun U hU hW => ⟨rfl, by rw [hU], ?_, va_K.moved hW.alike C.2.2.2.2.2.2.1, fun i j hi hj _ => ?_⟩⟩
    · rw [hU]
      intro k z hz
      obtain ⟨d, hd, rfl⟩ := wd_of hz
      have hk0 : k = 0 := by have := g_lt hd; simpa using this
      subst hk0
      have hdd : d = d0 := by simpa using hd.symm
      subst hdd
      have e : g_cell G (fun _ => q sh0.length) (fun _ => μ sh0.length) (fun _ => ν sh0.length) 0 d = g_cell G q μ ν sh0.length d := by
        rw [g_cell_q (q2 := q) (fun j hj => by rw [hnr] at hj; cases hj)]
        rcases d with n | (o | (ids | n)) <;> rfl
      rw [e]; exact hPL
    · simp at hi hj; omega
  have hfr : ∀ a, gA (fun _ => q sh0.length) [d0].length H.size a → A a := by
    rintro a (⟨k, hk, rfl⟩ | h)
    · exact hq.2 sh0.length (by rw [hlen]; omega)
    · exact C.2.2.2.2.2.2.2 a (Nat.le_trans hS.1 h)
  exact va_callv (va_runIN (As := []) (rest := st') ⟨C.1, C.2.1, C.2.2.2.1, C.2.2.2.2.1, C.2.2.2.2.2.1⟩ (hM H.size) cw hpre rfl rfl hl.1 rfl (lv_room hsum) hdg ⟨hc, hs⟩) hS (fun a _ h => hfr a h) hfr (fun q1 t H1 locs1 ht hvm hw hB hz hk hS1 => by
    have hB : va_P G.1 vwCl (wd G q1 μ1 ν1 0 sh1) t.heap := hB
    rw [ht] at hB
    have h10 : q1 0 = q sh0.length := hw.1 0 (by simp)
    have hd1 : gD (gA (fun _ => q sh0.length) 1 H.size) q1 sh1.length := hw.2
    have hge : ∀ j, j < sh1.length → ∀ i, i < sh0.length → g_app sh0.length q q1 i ≠ q1 j := fun j hj i hi e => by
      have e1 : g_app sh0.length q q1 i = q i := if_pos hi
      rw [e1] at e
      rcases hd1.2 j hj with ⟨k, -, h9⟩ | h9
      · have := hq.1 i sh0.length (by rw [hlen]; omega) (by rw [hlen]; omega) (e.trans h9)
        omega
      · rw [← e] at h9
        exact absurd (hlt i (by rw [hlen]; omega)) (Nat.not_lt.mpr h9)
    have hpos : 0 < sh1.length ∨ sh1.length = 0 := by omega
    refine K (g_app sh0.length q q1) (fun k hk9 => ?_) ⟨fun i j hi hj hij => ?_, fun k hk9 => ?_⟩ H1 locs1 ls ?_ hS1 hl
    · unfold g_app
      by_cases h1 : k < sh0.length
      · rw [if_pos h1]
      · have h2 : k = sh0.length := by omega
        subst h2
        rw [if_neg h1, Nat.sub_self, h10]
    · rw [List.length_append, List.length_map] at hi hj
      by_cases h1 : i < sh0.length
      · by_cases h2 : j < sh0.length
        · have e1 : g_app sh0.length q q1 i = q i := if_pos h1
          have e2 : g_app sh0.length q q1 j = q j := if_pos h2
          rw [e1, e2] at hij
          exact hq.1 i j (by rw [hlen]; omega) (by rw [hlen]; omega) hij
        · have e2 : g_app sh0.length q q1 j = q1 (j - sh0.length) := if_neg h2
          rw [e2] at hij
          exact absurd hij (hge _ (by omega) i h1)
      · have e1 : g_app sh0.length q q1 i = q1 (i - sh0.length) := if_neg h1
        by_cases h2 : j < sh0.length
        · rw [e1] at hij
          exact absurd hij.symm (hge _ (by omega) j h2)
        · have e2 : g_app sh0.length q q1 j = q1 (j - sh0.length) := if_neg h2
          rw [e1, e2] at hij
          have := hd1.1 _ _ (by omega) (by omega) hij
          omega
    · rw [List.length_append, List.length_map] at hk9
      unfold g_app
      by_cases h1 : k < sh0.length
      · rw [if_pos h1]; exact hq.2 k (by rw [hlen]; omega)
      · rw [if_neg h1]; exact hfr _ (hd1.2 _ (by omega))
    · intro k z hz9
      obtain ⟨d, hd, rfl⟩ := wd_of hz9
      by_cases h1 : k < sh0.length
      · have hd' : sh0[k]? = some d := by rw [List.getElem?_append_left h1] at hd; exact hd
        have h2 := hP k _ (wd_at (by rw [List.getElem?_append_left h1]; exact hd'))
        have e1 : g_app sh0.length q q1 k = q k := if_pos h1
        have e2 : g_app sh0.length μ μ1 k = μ k := if_pos h1
        have e3 : g_app sh0.length ν ν1 k = ν k := if_pos h1
        rw [e1, g_cell_cong e2 e3, g_cell_q (q1 := g_app sh0.length q q1) (q2 := q) (fun j hj => if_pos (g_wf_at hwf0 hd' j hj))]
        refine h2.kept (hk _ h2.lt ?_)
        rintro (⟨j, -, h9⟩ | h9)
        · have := hq.1 k sh0.length (by rw [hlen]; omega) (by rw [hlen]; omega) h9
          omega
        · exact absurd h2.lt (Nat.not_lt.mpr h9)
      · rw [List.getElem?_append_right (Nat.not_lt.mp h1), List.getElem?_map] at hd
        cases hd9 : sh1[k - sh0.length]? with
        | none => rw [hd9] at hd; cases hd
        | some d1 =>
          rw [hd9] at hd
          have hdd : d = g_shf sh0.length d1 := (Option.some.inj hd).symm
          subst hdd
          have h2 := hB _ _ (wd_at hd9)
          obtain ⟨j, rfl⟩ : ∃ j, k = j + sh0.length := ⟨k - sh0.length, by omega⟩
          rw [Nat.add_sub_cancel] at h2
          have e0 : ∀ {α : Type} (f g : Nat → α) (i : Nat), g_app sh0.length f g (i + sh0.length) = g i := fun f g i => by
            unfold g_app; rw [if_neg (by omega), Nat.add_sub_cancel]
          rw [g_cell_shf (q1 := q1) (μ1 := μ1) (ν1 := ν1) (f := fun _ => 0) (h := fun _ => 0) (e0 q q1) (e0 μ μ1 j) (e0 ν ν1 j), e0 q q1 j]
          exact h2)
theorem x_callIe (C : xC p s m args meth c G A nL cc own Ts) (hq : gD A q sh.length) (hwf0 : g_wf sh0 = true) (hsh : sh = sh0 ++ [d0]) (hL : sh0.length = L) (hnr : g_refs d0 = []) (hE : gE s) (hM : gMe l y wsy rm G [d0] (fun _ => q L) (fun _ => μ L) (fun _ => ν L) [.ref (q L)] sh1 μ1 ν1 mc ms) (cw : CallB R s args own index y bytes maxL none wsy rm mc ms 0 ∧ y.name = "<init>" ∧ (Cond.instanceMethod y).before args s = true) (hst : st = .ref (q L) :: st') (hsum : (st'.map fun v => v.category).sum ≤ 8) (hdg : decode cc pc = .ok (.invokespecial index, 3)) (hc : cells + mc ≤ R.cells) (hs : slots + ms ≤ R.slots) (hsh' : sh' = sh0 ++ sh1.map (g_shf L)) (K : ∀ q', (∀ k, k ≤ L → q' k = q k) → gD A q' sh'.length → xJ p l e R s m args below meth c G A nL Q (cells + mc) (slots + ms) sh' q' (g_app L μ μ1) (g_app L ν ν1) lv st' (pc + 3)) : xJ p l e R s m args below meth c G A nL Q cells slots sh q μ ν lv st pc := by
  intro H locs ls hP hS hl
  subst hst; subst hsh; subst hL; subst hsh'
  have hatL : (sh0 ++ [d0])[sh0.length]? = some d0 := by simp
  have hPL := hP sh0.length _ (wd_at hatL)
  have hlt : ∀ k, k < (sh0 ++ [d0]).length → q k < H.size := fun k hk => (hP k _ (wd_at (List.getElem?_eq_getElem hk))).lt
  have hlen : (sh0 ++ [d0]).length = sh0.length + 1 := by simp
  have hpre : PreS s H (gPc G [d0] (fun _ => q sh0.length) (fun _ => μ sh0.length) (fun _ => ν sh0.length) H.size [.ref (q sh0.length)]) [.ref (q sh0.length)] := by
    refine ⟨g_blind, fun U hU hW => ⟨rfl, by rw [hU], ?_, va_K.moved hW.alike C.2.2.2.2.2.2.1, fun i j hi hj _ => ?_⟩⟩
    · rw [hU]
      intro k z hz
      obtain ⟨d, hd, rfl⟩ := wd_of hz
      have hk0 : k = 0 := by have := g_lt hd; simpa using this
      subst hk0
      have hdd : d = d0 := by simpa using hd.symm
      subst hdd
      have e : g_cell G (fun _ => q sh0.length) (fun _ => μ sh0.length) (fun _ => ν sh0.length) 0 d = g_cell G q μ ν sh0.length d := by
        rw [g_cell_q (q2 := q) (fun j hj => by rw [hnr] at hj; cases hj)]
        rcases d with n | (o | (ids | n)) <;> rfl
      rw [e]; exact hPL
    · simp at hi hj; omega
  have hpre2 : PreS s H (gPe G [d0] (fun _ => q sh0.length) (fun _ => μ sh0.length) (fun _ => ν sh0.length) H.size [.ref (q sh0.length)]) [.ref (q sh0.length)] := ⟨g_blinde, fun U hU hW => ⟨hpre.2 U hU hW, gE_to hW hE⟩⟩
  have hfr : ∀ a, gA (fun _ => q sh0.length) [d0].length H.size a → A a := by
    rintro a (⟨k, hk, rfl⟩ | h)
    · exact hq.2 sh0.length (by rw [hlen]; omega)
    · exact C.2.2.2.2.2.2.2 a (Nat.le_trans hS.1 h)
  exact va_callv (va_runI (As := []) (rest := st') ⟨C.1, C.2.1, C.2.2.2.1, C.2.2.2.2.1, C.2.2.2.2.2.1⟩ (hM H.size) cw hpre2 rfl rfl hl.1 rfl (lv_room hsum) hdg ⟨hc, hs⟩) hS (fun a _ h => hfr a h) hfr (fun q1 t H1 locs1 ht hvm hw hB hz hk hS1 => by
    have hB : va_P G.1 vwCl (wd G q1 μ1 ν1 0 sh1) t.heap := hB
    rw [ht] at hB
    have h10 : q1 0 = q sh0.length := hw.1 0 (by simp)
    have hd1 : gD (gA (fun _ => q sh0.length) 1 H.size) q1 sh1.length := hw.2
    have hge : ∀ j, j < sh1.length → ∀ i, i < sh0.length → g_app sh0.length q q1 i ≠ q1 j := fun j hj i hi e => by
      have e1 : g_app sh0.length q q1 i = q i := if_pos hi
      rw [e1] at e
      rcases hd1.2 j hj with ⟨k, -, h9⟩ | h9
      · have := hq.1 i sh0.length (by rw [hlen]; omega) (by rw [hlen]; omega) (e.trans h9)
        omega
      · rw [← e] at h9
        exact absurd (hlt i (by rw [hlen]; omega)) (Nat.not_lt.mpr h9)
    have hpos : 0 < sh1.length ∨ sh1.length = 0 := by omega
    refine K (g_app sh0.length q q1) (fun k hk9 => ?_) ⟨fun i j hi hj hij => ?_, fun k hk9 => ?_⟩ H1 locs1 ls ?_ hS1 hl
    · unfold g_app
      by_cases h1 : k < sh0.length
      · rw [if_pos h1]
      · have h2 : k = sh0.length := by omega
        subst h2
        rw [if_neg h1, Nat.sub_self, h10]
    · rw [List.length_append, List.length_map] at hi hj
      by_cases h1 : i < sh0.length
      · by_cases h2 : j < sh0.length
        · have e1 : g_app sh0.length q q1 i = q i := if_pos h1
          have e2 : g_app sh0.length q q1 j = q j := if_pos h2
          rw [e1, e2] at hij
          exact hq.1 i j (by rw [hlen]; omega) (by rw [hlen]; omega) hij
        · have e2 : g_app sh0.length q q1 j = q1 (j - sh0.length) := if_neg h2
          rw [e2] at hij
          exact absurd hij (hge _ (by omega) i h1)
      · have e1 : g_app sh0.length q q1 i = q1 (i - sh0.length) := if_neg h1
        by_cases h2 : j < sh0.length
        · rw [e1] at hij
          exact absurd hij.symm (hge _ (by omega) j h2)
        · have e2 : g_app sh0.length q q1 j = q1 (j - sh0.length) := if_neg h2
          rw [e1, e2] at hij
          have := hd1.1 _ _ (by omega) (by omega) hij
          omega
    · rw [List.length_append, List.length_map] at hk9
      unfold g_app
      by_cases h1 : k < sh0.length
      · rw [if_pos h1]; exact hq.2 k (by rw [hlen]; omega)
      · rw [if_neg h1]; exact hfr _ (hd1.2 _ (by omega))
    · intro k z hz9
      obtain ⟨d, hd, rfl⟩ := wd_of hz9
      by_cases h1 : k < sh0.length
      · have hd' : sh0[k]? = some d := by rw [List.getElem?_append_left h1] at hd; exact hd
        have h2 := hP k _ (wd_at (by rw [List.getElem?_append_left h1]; exact hd'))
        have e1 : g_app sh0.length q q1 k = q k := if_pos h1
        have e2 : g_app sh0.length μ μ1 k = μ k := if_pos h1
        have e3 : g_app sh0.length ν ν1 k = ν k := if_pos h1
        rw [e1, g_cell_cong e2 e3, g_cell_q (q1 := g_app sh0.length q q1) (q2 := q) (fun j hj => if_pos (g_wf_at hwf0 hd' j hj))]
        refine h2.kept (hk _ h2.lt ?_)
        rintro (⟨j, -, h9⟩ | h9)
        · have := hq.1 k sh0.length (by rw [hlen]; omega) (by rw [hlen]; omega) h9
          omega
        · exact absurd h2.lt (Nat.not_lt.mpr h9)
      · rw [List.getElem?_append_right (Nat.not_lt.mp h1), List.getElem?_map] at hd
        cases hd9 : sh1[k - sh0.length]? with
        | none => rw [hd9] at hd; cases hd
        | some d1 =>
          rw [hd9] at hd
          have hdd : d = g_shf sh0.length d1 := (Option.some.inj hd).symm
          subst hdd
          have h2 := hB _ _ (wd_at hd9)
          obtain ⟨j, rfl⟩ : ∃ j, k = j + sh0.length := ⟨k - sh0.length, by omega⟩
          rw [Nat.add_sub_cancel] at h2
          have e0 : ∀ {α : Type} (f g : Nat → α) (i : Nat), g_app sh0.length f g (i + sh0.length) = g i := fun f g i => by
            unfold g_app; rw [if_neg (by omega), Nat.add_sub_cancel]
          rw [g_cell_shf (q1 := q1) (μ1 := μ1) (ν1 := ν1) (f := fun _ => 0) (h := fun _ => 0) (e0 q q1) (e0 μ μ1 j) (e0 ν ν1 j), e0 q q1 j]
          exact h2)
end XCN
theorem x_mu2 {p : Program} {l : Launch} {e : Env} {R : Room} {s : State} {m : MethodId} {args : Array Value} {below : List Frame} {meth : Method} {c : Code} {G : gG} {A : Nat → Prop} {nL : Nat} {Q : State → Prop} {cells slots : Nat} {sh : List gC} {q : Nat → Nat} {μ μ2 : gM} {ν ν2 : gN} {lv : List (Nat × Value)} {st : List Value} {pc : Nat} (h1 : μ2 = μ) (h2 : ν2 = ν) (k : xJ p l e R s m args below meth c G A nL Q cells slots sh q μ2 ν2 lv st pc) : xJ p l e R s m args below meth c G A nL Q cells slots sh q μ ν lv st pc := by subst h1; subst h2; exact k
