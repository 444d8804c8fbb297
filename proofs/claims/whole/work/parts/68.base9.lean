/-! constructors: cells that are made -/
theorem wd_push {G : gG} {sh : List gC} {q q' : Nat → Nat} {μ μ' : gM} {ν ν' : gN} {d : gC} {a : Nat} (hwf : g_wf sh = true) (hq : ∀ k, k < sh.length → q' k = q k) (ha : q' sh.length = a) (hμ : ∀ k, k < sh.length → μ' k = μ k ∧ ν' k = ν k) : wd G q' μ' ν' 0 (sh ++ [d]) = wd G q μ ν 0 sh ++ [(a, g_cell G q' μ' ν' sh.length d)] := by
  apply List.ext_getElem?
  intro k
  rw [wd_get]
  have hlen : (wd G q μ ν 0 sh).length = sh.length := by
    have hb : ∀ (sh : List gC) (b : Nat), (wd G q μ ν b sh).length = sh.length := by
      intro sh
      induction sh with
      | nil => intro b; rfl
      | cons d ds ih => intro b; simp [wd, ih (b + 1)]
    exact hb sh 0
  by_cases hk : k < sh.length
  · rw [List.getElem?_append_left hk, List.getElem?_append_left (by rw [hlen]; exact hk), wd_get]
    cases hd : sh[k]? with
    | none => rfl
    | some e =>
      simp only [Option.map_some, Nat.zero_add]
      rw [hq k hk, g_cell_cong (hμ k hk).1 (hμ k hk).2, g_cell_q (q2 := q) (fun j hj => hq j (g_wf_at hwf hd j hj))]
  · rw [List.getElem?_append_right (Nat.not_lt.mp hk), List.getElem?_append_right (by rw [hlen]; exact Nat.not_lt.mp hk), hlen]
    by_cases hk2 : k = sh.length
    · subst hk2
      simp [ha]
    · have : k - sh.length ≠ 0 := by omega
      obtain ⟨j, hj⟩ := Nat.exists_eq_succ_of_ne_zero this
      rw [hj]; simp
theorem gD_push {A : Nat → Prop} {G : gG} {sh : List gC} {q q' : Nat → Nat} {μ : gM} {ν : gN} {a : Nat} {e : va_E} (hq : ∀ k, k < sh.length → q' k = q k) (ha : q' sh.length = a) (h : va_D A (wd G q μ ν 0 sh ++ [(a, e)])) : gD A q' (sh.length + 1) := by
  have hlen : (wd G q μ ν 0 sh).length = sh.length := by
    have hb : ∀ (sh : List gC) (b : Nat), (wd G q μ ν b sh).length = sh.length := by
      intro sh
      induction sh with
      | nil => intro b; rfl
      | cons d ds ih => intro b; simp [wd, ih (b + 1)]
    exact hb sh 0
  have hat : ∀ k, k < sh.length + 1 → ∃ e2, (wd G q μ ν 0 sh ++ [(a, e)])[k]? = some (q' k, e2) := fun k hk => by
    by_cases h1 : k < sh.length
    · rw [List.getElem?_append_left (by rw [hlen]; exact h1), wd_at (List.getElem?_eq_getElem h1), hq k h1]
      exact ⟨_, rfl⟩
    · have h2 : k = sh.length := by omega
      subst h2
      rw [List.getElem?_append_right (by rw [hlen]; exact Nat.le_refl _), hlen, Nat.sub_self, ha]
      exact ⟨e, rfl⟩
  refine ⟨fun i j hi hj hij => ?_, fun k hk => ?_⟩
  · obtain ⟨e1, h1⟩ := hat i hi
    obtain ⟨e2, h2⟩ := hat j hj
    exact h.1 i j _ _ h1 h2 hij
  · obtain ⟨e1, h1⟩ := hat k hk
    exact h.2 k _ h1
def g_shf (L : Nat) (d : gC) : gC := match d with
  | .inl n => .inl n
  | .inr (.inl o) => .inr (.inl (o.1, o.2.map (fun f => match f with | .inl j => .inl (j + L) | .inr b => .inr b)))
  | .inr (.inr (.inl ids)) => .inr (.inr (.inl (ids.map (Option.map (· + L)))))
  | .inr (.inr (.inr n)) => .inr (.inr (.inr n))
def g_app {α : Type} (L : Nat) (f g : Nat → α) : Nat → α := fun k => if k < L then f k else g (k - L)
def gQc (G : gG) (sh' : List gC) (q : Nat → Nat) (n0 : Nat) (μ' : gM) (ν' : gN) (sz : Nat) : Array Value → State → Outcome → State → Prop := va_Qv (fun (q' : Nat → Nat) => (∀ k, k < n0 → q' k = q k) ∧ gD (gA q n0 sz) q' sh'.length) (fun q' t => va_P G.1 vwCl (wd G q' μ' ν' 0 sh') t.heap) (gA q n0 sz)
def gMc (l : Launch) (y : MethodName) (ws : List Cond) (rm : Room) (G : gG) (sh : List gC) (q : Nat → Nat) (μ : gM) (ν : gN) (av : List Value) (sh' : List gC) (μ' : gM) (ν' : gN) (mc ms : Nat) : Prop := ∀ sz : Nat, Met l y ws rm (gPc G sh q μ ν sz av) (gQc G sh' q sh.length μ' ν' sz) mc ms (gA q sh.length sz)
theorem g_metc {l : Launch} {y : MethodName} {ws ws' : List Cond} {rm : Room} {G : gG} {sh : List gC} {q : Nat → Nat} {μ : gM} {ν : gN} {av : List Value} {sz mc ms : Nat} {Qc : Nat → Array Value → State → Outcome → State → Prop} {cc : ByteArray} {maxL : Nat} {ret : Option FieldType} {own : String} (hy : plainName y.cls = true) (ho : y.cls = own) (hw : ws = Cond.code y cc maxL ret :: ws') (hlen : (lg_sl av).length ≤ maxL)
    (body : ∀ (p : Program) (e : Env) (s : State) (m : MethodId) (below : List Frame) (meth : Method) (c : Code), xC p s m av.toArray meth c G (gA q sh.length s.heap.size) maxL cc own ws → gD (gA q sh.length s.heap.size) q sh.length → meth.sig.returnType = ret → meth.name = y.name → xJ p l e rm s m av.toArray below meth c G (gA q sh.length s.heap.size) maxL (MQ below (Qc s.heap.size) av.toArray s mc ms (gA q sh.length s.heap.size)) 0 0 sh q μ ν (lv_args 0 av) [] 0) :
    Met l y ws rm (gPc G sh q μ ν sz av) (Qc sz) mc ms (gA q sh.length sz) := by
  refine Met.ofW (cc := cc) (maxL := maxL) (ret := ret) hy hw ?_
  intro p e s m args below meth c s₁ B hml hv
  obtain ⟨rfl, rfl, hP, hK, hD⟩ := hv
  have hts := atoms_spec (ws := ws) B.pre
  have hA : ∀ a : Nat, s.heap.size ≤ a → gA q sh.length s.heap.size a := fun a h => Or.inr h
  have C : xC p s m av.toArray meth c G (gA q sh.length s.heap.size) maxL cc own ws := ⟨B.exec, B.bytes, B.notSynchronized, hml, ho ▸ findClass_of_methodNamed B.named, hts, hK, hA⟩
  have hq : gD (gA q sh.length s.heap.size) q sh.length := ⟨hD, fun k hk => Or.inl ⟨k, hk, rfl⟩⟩
  have hl := lv_entry av (n := maxL) hlen
  rw [lg_entry_eq]
  exact body p e s m below meth c C hq B.returns (name_of_methodNamed B.named B.method).1 s.heap [] _ hP va_S.rf hl
section XCN
variable {p : Program} {l : Launch} {e : Env} {R : Room} {s : State} {m : MethodId} {args : Array Value} {below : List Frame} {meth : Method} {c : Code} {G : gG} {A : Nat → Prop} {nL : Nat} {Q : State → Prop} {cells slots : Nat} {sh sh' sh0 sh1 : List gC} {q q' : Nat → Nat} {μ μ' μ1 : gM} {ν ν' ν1 : gN} {lv lv' : List (Nat × Value)} {st st' : List Value} {pc : Nat}
variable {cc : ByteArray} {own : String} {Ts : List Cond}
theorem x_newi (C : xC p s m args meth c G A nL cc own Ts) (hq : gD A q sh.length) (hwf : g_wf sh = true) {n : Int32} {N' L : Nat} (harr : Cond.arrayClass .int ∈ Ts) (hn : ¬ n < 0) (hN : n.toNatClampNeg = N') (hbytes : N' * 4 ≤ 536870912) (hcells : cells + 1 ≤ R.cells) (hslots : slots + N' ≤ R.slots) (hdg : decode cc pc = .ok (.newarray .int, 2)) (hL : sh.length = L) (hsh : sh' = sh ++ [.inl N']) (K : ∀ q', (∀ k, k < L → q' k = q k) → gD A q' sh'.length → xJ p l e R s m args below meth c G A nL Q (cells + 1) (slots + N') sh' q' (g_set μ L (fun _ => 0)) ν lv (.ref (q' L) :: st) (pc + 2)) : xJ p l e R s m args below meth c G A nL Q cells slots sh q μ ν lv (.int n :: st) pc := by
  intro H locs ls hP hS hl
  refine va_newa (D := G.1) (cl := vwCl) (tys := gT G) (atype := .int) (ty := .int) (a0 := (N', .inl (fun _ => 0))) C.1 C.2.1 (C.2.2.2.2.2.1 _ harr) rfl C.2.2.2.2.2.2.1 hP (gD_wd hq G μ ν) hS C.2.2.2.2.2.2.2 (fun cA => rfl) hn hN hbytes hcells hslots hdg (fun a cA H1 hK1 hP1 hD1 hS1 => ?_)
  have hcA : cA = G.2.1 := by
    have h1 : s.vm.findClass ("[" ++ FieldType.int.toString) = some cA := (hK1.2 3 _ rfl).2
    have h2 : s.vm.findClass ("[" ++ FieldType.int.toString) = some G.2.1 := (hK1.2 0 _ rfl).2
    exact Option.some.inj (h1.symm.trans h2)
  subst hcA
  subst hL; subst hsh
  have e1 : ∀ k, k < sh.length → (fun k => if k = sh.length then a else q k) k = q k := fun k hk => if_neg (by omega)
  have e2 : (fun k => if k = sh.length then a else q k) sh.length = a := if_pos rfl
  have hw := wd_push (G := G) (sh := sh) (q := q) (q' := fun k => if k = sh.length then a else q k) (μ := μ) (μ' := g_set μ sh.length (fun _ => 0)) (ν := ν) (ν' := ν) (d := .inl N') hwf e1 e2 (fun k hk => ⟨g_set_n (by omega), rfl⟩)
  have hc : g_cell G (fun k => if k = sh.length then a else q k) (g_set μ sh.length (fun _ => 0)) ν sh.length (.inl N') = .inl (G.2.1, N', .inl (fun _ => 0)) := by
    unfold g_cell; rw [g_set_s]
  have hst : (Value.ref a) = .ref ((fun k => if k = sh.length then a else q k) sh.length) := by rw [e2]
  rw [hst]
  exact K (fun k => if k = sh.length then a else q k) e1 (by rw [List.length_append]; exact gD_push e1 e2 hD1) H1 locs ls (by rw [hw, hc]; exact hP1) hS1 hl
theorem x_newq (C : xC p s m args meth c G A nL cc own Ts) (hq : gD A q sh.length) (hwf : g_wf sh = true) {n : Int32} {N' L index : Nat} (hlink : Cond.classLink own index "HintedPages$Store" ∈ Ts) (hover : va_AO "HintedPages$Store" s) (hn : ¬ n < 0) (hN : n.toNatClampNeg = N') (hbytes : N' * 4 ≤ 536870912) (hcells : cells + 1 ≤ R.cells) (hslots : slots + N' ≤ R.slots) (hdg : decode cc pc = .ok (.anewarray index, 3)) (hL : sh.length = L) (hsh : sh' = sh ++ [.inr (.inr (.inl (List.replicate N' none)))]) (K : ∀ q', (∀ k, k < L → q' k = q k) → gD A q' sh'.length → xJ p l e R s m args below meth c G A nL Q (cells + 1) (slots + N') sh' q' μ ν lv (.ref (q' L) :: st) (pc + 3)) : xJ p l e R s m args below meth c G A nL Q cells slots sh q μ ν lv (.int n :: st) pc := by
  intro H locs ls hP hS hl
  refine va_newq (D := G.1) (cl := vwCl) (tys := gT G) C.1 C.2.1 C.2.2.2.2.1 (C.2.2.2.2.2.1 _ hlink) hover C.2.2.2.2.2.2.1 hP (gD_wd hq G μ ν) hS C.2.2.2.2.2.2.2 hn hN hbytes hcells hslots hdg (fun a cA H1 hK1 hP1 hD1 hS1 => ?_)
  have hcA : cA = G.2.2.2 := by
    obtain ⟨kA, comp, -, -, -, h1⟩ := (hK1.2 3 _ rfl).2
    obtain ⟨kB, comp2, -, -, -, h2⟩ := (hK1.2 2 _ rfl).2
    exact Option.some.inj (h1.symm.trans h2)
  subst hcA
  subst hL; subst hsh
  have e1 : ∀ k, k < sh.length → (fun k => if k = sh.length then a else q k) k = q k := fun k hk => if_neg (by omega)
  have e2 : (fun k => if k = sh.length then a else q k) sh.length = a := if_pos rfl
  have hw := wd_push (G := G) (sh := sh) (q := q) (q' := fun k => if k = sh.length then a else q k) (μ := μ) (μ' := μ) (ν := ν) (ν' := ν) (d := .inr (.inr (.inl (List.replicate N' none)))) hwf e1 e2 (fun k hk => ⟨rfl, rfl⟩)
  have hc : g_cell G (fun k => if k = sh.length then a else q k) μ ν sh.length (.inr (.inr (.inl (List.replicate N' none)))) = .inl (G.2.2.2, N', .inr (.inr (.inr (.inr (fun _ => none))))) := by
    simp only [g_cell, List.length_replicate]
    congr 7
    funext i
    simp only [List.getD, List.getElem?_replicate]
    split <;> rfl
  have hst : (Value.ref a) = .ref ((fun k => if k = sh.length then a else q k) sh.length) := by rw [e2]
  rw [hst]
  exact K (fun k => if k = sh.length then a else q k) e1 (by rw [List.length_append]; exact gD_push e1 e2 hD1) H1 locs ls (by rw [hw, hc]; exact hP1) hS1 hl
theorem x_newo (C : xC p s m args meth c G A nL cc own Ts) (hq : gD A q sh.length) (hwf : g_wf sh = true) {CN : String} {T : u_T} {N ci index L : Nat} {fds : List gF} (ty : Nat → FieldType) (hty : ∀ k, k < N → parseFieldDescriptor (T k).2.2.1 = some (ty k)) (hin : ∀ w ∈ u_ws CN T N, w ∈ Ts) (hcl : Cond.classLink own index CN ∈ Ts) (hinst : Cond.instantiable CN N ∈ Ts) (hini : Cond.initialized CN ∈ Ts) (hc : vwCl[ci]? = some (CN, T, N)) (hfs : ∀ j, j < N → defaultValue (ty j) = vp_V (g_flds (fun _ => 0) (fun _ => 0) (fun _ => 0) 0 fds) j) (hnr : (g_refs (.inr (.inl (ci, fds)))) = []) (hcells : cells + 1 ≤ R.cells) (hslots : slots + N ≤ R.slots) (hdg : decode cc pc = .ok (.new index, 3)) (hL : sh.length = L) (hsh : sh' = sh ++ [.inr (.inl (ci, fds))]) (K : ∀ q', (∀ k, k < L → q' k = q k) → gD A q' sh'.length → xJ p l e R s m args below meth c G A nL Q (cells + 1) (slots + N) sh' q' (g_set μ L (fun _ => 0)) (g_setN ν L (fun _ => 0)) lv (.ref (q' L) :: st) (pc + 3)) : xJ p l e R s m args below meth c G A nL Q cells slots sh q μ ν lv st pc := by
  intro H locs ls hP hS hl
  refine va_new (D := G.1) (cl := vwCl) (tys := gT G) (ci := ci) (fs := g_flds (fun _ => 0) (fun _ => 0) (fun _ => 0) 0 fds) (C := CN) (T := T) (N := N) C.1 C.2.1 C.2.2.2.2.2.1 hin ty hty C.2.2.2.2.1 (C.2.2.2.2.2.1 _ hcl) (C.2.2.2.2.2.1 _ hinst) (C.2.2.2.2.2.1 _ hini) C.2.2.2.2.2.2.1 hP (gD_wd hq G μ ν) hS C.2.2.2.2.2.2.2 hc hfs hcells hslots hdg (fun a H1 hP1 hD1 hS1 => ?_)
  subst hL; subst hsh
  have e1 : ∀ k, k < sh.length → (fun k => if k = sh.length then a else q k) k = q k := fun k hk => if_neg (by omega)
  have e2 : (fun k => if k = sh.length then a else q k) sh.length = a := if_pos rfl
  have hw := wd_push (G := G) (sh := sh) (q := q) (q' := fun k => if k = sh.length then a else q k) (μ := μ) (μ' := g_set μ sh.length (fun _ => 0)) (ν := ν) (ν' := g_setN ν sh.length (fun _ => 0)) (d := .inr (.inl (ci, fds))) hwf e1 e2 (fun k hk => ⟨g_set_n (by omega), g_setN_n (by omega)⟩)
  have hce : g_cell G (fun k => if k = sh.length then a else q k) (g_set μ sh.length (fun _ => 0)) (g_setN ν sh.length (fun _ => 0)) sh.length (.inr (.inl (ci, fds))) = .inr (ci, g_flds (fun _ => 0) (fun _ => 0) (fun _ => 0) 0 fds) := by
    have h1 : g_cell G (fun k => if k = sh.length then a else q k) (g_set μ sh.length (fun _ => 0)) (g_setN ν sh.length (fun _ => 0)) sh.length (.inr (.inl (ci, fds))) = g_cell G (fun _ => 0) (g_set μ sh.length (fun _ => 0)) (g_setN ν sh.length (fun _ => 0)) sh.length (.inr (.inl (ci, fds))) := g_cell_q (fun j hj => by rw [hnr] at hj; cases hj)
    rw [h1]; unfold g_cell; rw [g_set_s, g_setN_s]
  have hst : (Value.ref a) = .ref ((fun k => if k = sh.length then a else q k) sh.length) := by rw [e2]
  rw [hst]
  exact K (fun k => if k = sh.length then a else q k) e1 (by rw [List.length_append]; exact gD_push e1 e2 hD1) H1 locs ls (by rw [hw, hce]; exact hP1) hS1 hl
theorem x_putrF (C : xC p s m args meth c G A nL cc own Ts) (hq : gD A q sh.length) (hname : meth.name = "<init>") {CN : String} {T : u_T} {N ci index j : Nat} {fs : List gF} {ty : FieldType} (ty0 : Nat → FieldType) (hty : ∀ k, k < N → parseFieldDescriptor (T k).2.2.1 = some (ty0 k)) (hnm : ∀ a, a < N → ∀ b, b < N → a ≠ b → (T a).2.1 ≠ (T b).2.1) (hin : ∀ w ∈ u_ws CN T N, w ∈ Ts) (k : Nat) (hs : sh[k]? = some (.inr (.inl (ci, fs)))) (hc : vwCl[ci]? = some (CN, T, N)) (i : Nat) (hi : i < N) (hlink : Cond.fieldLink own index (T i).1 (T i).2.1 (T i).2.2.1 ∈ Ts) (hfin : (T i).2.2.2 = true) (hdecl : (T i).1 = own) (hd : parseFieldDescriptor (T i).2.2.1 = some ty) (hn : narrow ty (.ref (q j)) = .ref (q j)) (hfit : fits ty (.ref (q j)) = true) (hl9 : i < fs.length) (hsh : sh' = sh.set k (.inr (.inl (ci, fs.set i (.inl j))))) (hdg : decode cc pc = .ok (.putfield index, 3)) (K : xJ p l e R s m args below meth c G A nL Q cells slots sh' q μ ν lv st (pc + 3)) : xJ p l e R s m args below meth c G A nL Q cells slots sh q μ ν lv (.ref (q j) :: .ref (q k) :: st) pc := by
  intro H locs ls hP hS hl
  refine va_putF (D := G.1) (cl := vwCl) (tys := gT G) (ci := ci) (fs := g_flds q (μ k) (ν k) 0 fs) (v := .ref (q j)) (ty := ty) (C := CN) (T := T) (N := N) C.1 C.2.1 C.2.2.2.2.2.1 hin ty0 hty hnm C.2.2.2.2.1 C.2.2.2.2.2.2.1 hP (gD_wd hq G μ ν) hS k (wd_at hs) hc i hi (C.2.2.2.2.2.1 _ hlink) (fun _ h => h) hfin hname hdecl hd hn hfit (by rw [g_flds_len]; exact hl9) hdg (fun H1 locs1 hP1 _ hS1 => K H1 locs1 ls ?_ hS1 hl)
  rw [g_flds_setr] at hP1
  have e : g_cell G q μ ν k (.inr (.inl (ci, fs.set i (.inl j)))) = .inr (ci, g_flds q (μ k) (ν k) 0 (fs.set i (.inl j))) := rfl
  rw [← e, wd_setsh hs] at hP1
  rw [hsh]
  exact hP1
theorem x_objInit (C : xC p s m args meth c G A nL cc own Ts) {a idx : Nat} (h1 : Cond.methodLink own idx Lib.objectInit ∈ Ts) (h2 : Cond.instanceMethod Lib.objectInit ∈ Ts) (h3 : Cond.code Lib.objectInit ⟨#[0xb1]⟩ 1 none ∈ Ts) (hdg : decode cc pc = .ok (.invokespecial idx, 3)) (hf : 1 ≤ R.frames) (hl : (st.map fun v => v.category).sum + 12 ≤ R.locals) (K : xJ p l e R s m args below meth c G A nL Q cells slots sh q μ ν lv st (pc + 3)) : xJ p l e R s m args below meth c G A nL Q cells slots sh q μ ν lv (.ref a :: st) pc := by
  intro H locs ls hP hS hl9
  refine W.objInit C.1 C.2.1 C.2.2.2.2.1 (C.2.2.2.2.2.1 _ h1) (C.2.2.2.2.2.1 _ h2) (C.2.2.2.2.2.1 _ h3) rfl (hl9.1.trans C.2.2.2.1.symm) rfl hdg hf (by show 2 * 0 + _ + 12 ≤ _; omega) ?_
  exact K H locs ls hP hS hl9
theorem g_cret (C : xC p s m args meth c G (gA q sh.length s.heap.size) nL cc own Ts) {sh9 : List gC} {n0 : Nat} (h0 : sh.length = n0) (hq : gD (gA q sh.length s.heap.size) q' sh9.length) (h4 : ∀ k, k < n0 → q' k = q k) (hr : meth.sig.returnType = none) (hdg : decode cc pc = .ok (.return_, 1)) (h2 : μ = μ') (h3 : ν = ν') : xJ p l e R s m args below meth c G (gA q sh.length s.heap.size) nL (MQ below (gQc G sh9 q sh.length μ' ν' s.heap.size) args s cells slots (gA q sh.length s.heap.size)) cells slots sh9 q' μ ν lv [] pc := by
  intro H locs ls hP hS hl
  subst h2; subst h3; subst h0
  exact W.vret C.1 C.2.1 hr (fun t ht hW => ⟨⟨q', rfl, ⟨h4, hq⟩, by show va_P _ _ _ t.heap; rw [ht]; exact hP⟩, hS.F ht⟩) hS.2.2 hdg C.2.2.1
end XCN
