/-! references that are moved: rows of references, fields that are references, cells under other numbers -/
theorem wd_setsh {G : gG} {q : Nat → Nat} {μ : gM} {ν : gN} {sh : List gC} {k : Nat} {d d' : gC} (h : sh[k]? = some d) : (wd G q μ ν 0 sh).set k (q k, g_cell G q μ ν k d') = wd G q μ ν 0 (sh.set k d') := by
  apply List.ext_getElem?
  intro j
  rw [List.getElem?_set, wd_get, wd_get, List.getElem?_set]
  have hl : k < sh.length := g_lt h
  have hl2 : k < (wd G q μ ν 0 sh).length := g_lt (wd_at (G := G) (q := q) (μ := μ) (ν := ν) h)
  by_cases hj : k = j
  · subst hj
    rw [if_pos rfl, if_pos hl2, if_pos rfl, if_pos hl]
    simp
  · rw [if_neg hj, if_neg hj]
theorem g_flds_setr (q : Nat → Nat) (f : Nat → Int32) (h : Nat → Int64) (x : Nat) : ∀ (ds : List gF) (b i : Nat), (g_flds q f h b ds).set i (.ref (q x)) = g_flds q f h b (ds.set i (.inl x)) := by
  intro ds
  induction ds with
  | nil => intro b i; simp [g_flds]
  | cons d ds ih =>
    intro b i
    cases i with
    | zero => simp [g_flds, g_fld]
    | succ i => simp only [g_flds, List.set_cons_succ, ih (b + 1) i]
def g_nol (d : gC) : Bool := match d with
  | .inl _ => true
  | .inr (.inl o) => o.2.all (fun f => match f with | .inr (some true) => false | _ => true)
  | .inr (.inr (.inl _)) => true
  | .inr (.inr (.inr _)) => false
theorem g_flds_nu (q : Nat → Nat) (f : Nat → Int32) (h h' : Nat → Int64) : ∀ (ds : List gF) (b : Nat), ds.all (fun f => match f with | .inr (some true) => false | _ => true) = true → g_flds q f h b ds = g_flds q f h' b ds := by
  intro ds
  induction ds with
  | nil => intro b _; rfl
  | cons d ds ih =>
    intro b hb
    rw [List.all_cons, Bool.and_eq_true] at hb
    simp only [g_flds, ih (b + 1) hb.2]
    congr 1
    rcases d with j | (_ | (_ | _))
    · rfl
    · rfl
    · rfl
    · exact absurd hb.1 (by simp)
theorem g_cell_nu {G : gG} {q : Nat → Nat} {μ : gM} {ν ν' : gN} {k : Nat} {d : gC} (h : g_nol d = true) : g_cell G q μ ν k d = g_cell G q μ ν' k d := by
  rcases d with n | (o | (ids | n))
  · rfl
  · simp only [g_cell]; rw [g_flds_nu q (μ k) (ν k) (ν' k) o.2 0 h]
  · rfl
  · exact absurd h (by simp [g_nol])
theorem wd_nu {G : gG} {q : Nat → Nat} {μ : gM} {ν ν' : gN} {sh : List gC} {H : Heap} (hn : sh.all g_nol = true) (h : va_P G.1 vwCl (wd G q μ ν 0 sh) H) : va_P G.1 vwCl (wd G q μ ν' 0 sh) H := by
  intro k z hz
  obtain ⟨d, hd, rfl⟩ := wd_of hz
  have h3 := h k _ (wd_at hd)
  rw [g_cell_nu (ν' := ν) (List.all_eq_true.mp hn d (List.mem_of_getElem? hd))]
  exact h3
theorem gD_sel {A : Nat → Prop} {q : Nat → Nat} {n : Nat} {es : List Nat} (h : gD A q n) (hn : es.Nodup) (hl : es.length = n) (hlt : ∀ e ∈ es, e < n) : gD A (g_sel es q) n := by
  have hget : ∀ {k e : Nat}, es[k]? = some e → es.getD k 0 = e := fun he => by simp [List.getD, he]
  have hat : ∀ k, k < n → ∃ e, es[k]? = some e ∧ e < n := fun k hk => by
    have h1 : k < es.length := by omega
    exact ⟨es[k], List.getElem?_eq_getElem h1, hlt _ (List.getElem_mem h1)⟩
  refine ⟨fun i j hi hj hxy => ?_, fun k hk => ?_⟩
  · obtain ⟨e1, a1, b1⟩ := hat i hi
    obtain ⟨e2, a2, b2⟩ := hat j hj
    have h4 : q e1 = q e2 := by
      have h5 : q (es.getD i 0) = q (es.getD j 0) := hxy
      rw [hget a1, hget a2] at h5; exact h5
    have h6 := h.1 e1 e2 b1 b2 h4
    subst h6
    exact (List.getElem?_inj (g_lt a1) hn).mp (a1.trans a2.symm)
  · obtain ⟨e, a, b⟩ := hat k hk
    show A (q (es.getD k 0))
    rw [hget a]; exact h.2 e b
/-- a contract whose cells may lie elsewhere behind it: the first n4 cells stay where they are -/
def gQpi (G : gG) (sh : List gC) (q : Nat → Nat) (n4 : Nat) (μ' : gM) (ν' : gN) (sz : Nat) (r : Int32) : Array Value → State → Outcome → State → Prop := va_Qi (fun r' (q' : Nat → Nat) => r' = r ∧ (∀ k, k < n4 → q' k = q k) ∧ gD (gA q sh.length sz) q' sh.length) (fun q' t => va_P G.1 vwCl (wd G q' μ' ν' 0 sh) t.heap) (gA q sh.length sz)
def gQpv (G : gG) (sh : List gC) (q : Nat → Nat) (n4 : Nat) (μ' : gM) (ν' : gN) (sz : Nat) : Array Value → State → Outcome → State → Prop := va_Qv (fun (q' : Nat → Nat) => (∀ k, k < n4 → q' k = q k) ∧ gD (gA q sh.length sz) q' sh.length) (fun q' t => va_P G.1 vwCl (wd G q' μ' ν' 0 sh) t.heap) (gA q sh.length sz)
def gMpi (l : Launch) (y : MethodName) (ws : List Cond) (rm : Room) (G : gG) (sh : List gC) (q : Nat → Nat) (n4 : Nat) (μ : gM) (ν : gN) (av : List Value) (μ' : gM) (ν' : gN) (r : Int32) : Prop := ∀ sz : Nat, Met l y ws rm (gPc G sh q μ ν sz av) (gQpi G sh q n4 μ' ν' sz r) 0 0 (gA q sh.length sz)
def gMpv (l : Launch) (y : MethodName) (ws : List Cond) (rm : Room) (G : gG) (sh : List gC) (q : Nat → Nat) (n4 : Nat) (μ : gM) (ν : gN) (av : List Value) (μ' : gM) (ν' : gN) : Prop := ∀ sz : Nat, Met l y ws rm (gPc G sh q μ ν sz av) (gQpv G sh q n4 μ' ν' sz) 0 0 (gA q sh.length sz)
section XR
variable {p : Program} {l : Launch} {e : Env} {R : Room} {s : State} {m : MethodId} {args : Array Value} {below : List Frame} {meth : Method} {c : Code} {G : gG} {A : Nat → Prop} {nL : Nat} {Q : State → Prop} {cells slots : Nat} {sh sh' : List gC} {q q' : Nat → Nat} {μ μ' : gM} {ν ν' : gN} {lv lv' : List (Nat × Value)} {st st' : List Value} {pc : Nat}
variable {cc : ByteArray} {own : String} {Ts : List Cond}
theorem x_lve (h : lv = lv') (k : xJ p l e R s m args below meth c G A nL Q cells slots sh q μ ν lv' st pc) : xJ p l e R s m args below meth c G A nL Q cells slots sh q μ ν lv st pc := by subst h; exact k
theorem x_aald (C : xC p s m args meth c G A nL cc own Ts) (k : Nat) {ids : List (Option Nat)} {i v : Int32} {j : Nat} (hs : sh[k]? = some (.inr (.inr (.inl ids)))) (hi : i = v) (hin : vp_in v ids.length) (hj : ids[v.toNatClampNeg]? = some (some j)) (hdg : decode cc pc = .ok (.aaload, 1)) (K : xJ p l e R s m args below meth c G A nL Q cells slots sh q μ ν lv (.ref (q j) :: st) (pc + 1)) : xJ p l e R s m args below meth c G A nL Q cells slots sh q μ ν lv (.int i :: .ref (q k) :: st) pc := by
  intro H locs ls hP hS hl
  subst hi
  refine va_aldq (D := G.1) (cl := vwCl) (tys := gT G) C.1 C.2.1 C.2.2.2.2.2.2.1 hP k 2 (wd_at hs) rfl hin hdg ?_
  have e : va_rf ((ids.getD i.toNatClampNeg none).map q) = .ref (q j) := by simp only [List.getD, hj]; rfl
  rw [e]
  exact K H locs ls hP hS hl
theorem x_aast (C : xC p s m args meth c G A nL cc own Ts) (hq : gD A q sh.length) (k : Nat) {ids : List (Option Nat)} {i v : Int32} {j n : Nat} {fs : List gF} (hs : sh[k]? = some (.inr (.inr (.inl ids)))) (hi : i = v) (hn : v.toNatClampNeg = n) (hin : vp_in v ids.length) (hv : sh[j]? = some (.inr (.inl (1, fs)))) (hsh : sh' = sh.set k (.inr (.inr (.inl (ids.set n (some j)))))) (hdg : decode cc pc = .ok (.aastore, 1)) (K : xJ p l e R s m args below meth c G A nL Q cells slots sh' q μ ν lv st (pc + 1)) : xJ p l e R s m args below meth c G A nL Q cells slots sh q μ ν lv (.ref (q j) :: .int i :: .ref (q k) :: st) pc := by
  intro H locs ls hP hS hl
  subst hi
  refine va_astq (D := G.1) (cl := vwCl) (tys := gT G) (r := (RX1, TX1, 17)) (ci := 1) C.1 C.2.1 C.2.2.2.2.2.2.1 hP (gD_wd hq G μ ν) hS k 2 j (wd_at hs) rfl (wd_at hv) rfl hin hdg (fun H1 locs1 hP1 _ hS1 => K H1 locs1 ls ?_ hS1 hl)
  have hnl : n < ids.length := by
    rw [← hn]; exact Nat.not_le.mp fun q => hin (Or.inr q)
  have e : g_cell G q μ ν k (.inr (.inr (.inl (ids.set n (some j))))) = .inl (G.2.2.2, ids.length, .inr (.inr (.inr (.inr (va_up (fun i => (ids.getD i none).map q) i.toNatClampNeg (some (q j))))))) := by
    simp only [g_cell, List.length_set]
    congr 7
    funext a
    rw [hn]
    simp only [List.getD, List.getElem?_set]
    unfold va_up
    by_cases ha : n = a
    · subst ha; simp [hnl]
    · rw [if_neg ha, if_neg (fun h => ha h.symm)]
  rw [← e, wd_setsh hs] at hP1
  rw [hsh]
  exact hP1
theorem x_putr (C : xC p s m args meth c G A nL cc own Ts) (hq : gD A q sh.length) {CN nm : String} {T : u_T} {N ci index j : Nat} {fs : List gF} (ty0 : Nat → FieldType) (hty : ∀ k, k < N → parseFieldDescriptor (T k).2.2.1 = some (ty0 k)) (hnm : ∀ a, a < N → ∀ b, b < N → a ≠ b → (T a).2.1 ≠ (T b).2.1) (hin : ∀ w ∈ u_ws CN T N, w ∈ Ts) (k : Nat) (hs : sh[k]? = some (.inr (.inl (ci, fs)))) (hc : vwCl[ci]? = some (CN, T, N)) (i : Nat) (hi : i < N) (hlink : Cond.fieldLink own index (T i).1 (T i).2.1 (T i).2.2.1 ∈ Ts) (hfin : (T i).2.2.2 = false) (hd : parseFieldDescriptor (T i).2.2.1 = some (.object nm)) (hl9 : i < fs.length) (hsh : sh' = sh.set k (.inr (.inl (ci, fs.set i (.inl j))))) (hdg : decode cc pc = .ok (.putfield index, 3)) (K : xJ p l e R s m args below meth c G A nL Q cells slots sh' q μ ν lv st (pc + 3)) : xJ p l e R s m args below meth c G A nL Q cells slots sh q μ ν lv (.ref (q j) :: .ref (q k) :: st) pc := by
  intro H locs ls hP hS hl
  refine va_put (D := G.1) (cl := vwCl) (tys := gT G) (ci := ci) (fs := g_flds q (μ k) (ν k) 0 fs) (v := .ref (q j)) (ty := .object nm) (C := CN) (T := T) (N := N) C.1 C.2.1 C.2.2.2.2.2.1 hin ty0 hty hnm C.2.2.2.2.1 C.2.2.2.2.2.2.1 hP (gD_wd hq G μ ν) hS k (wd_at hs) hc i hi (C.2.2.2.2.2.1 _ hlink) (fun _ h => h) hfin hd rfl rfl (by rw [g_flds_len]; exact hl9) hdg (fun H1 locs1 hP1 _ hS1 => K H1 locs1 ls ?_ hS1 hl)
  rw [g_flds_setr] at hP1
  have e : g_cell G q μ ν k (.inr (.inl (ci, fs.set i (.inl j)))) = .inr (ci, g_flds q (μ k) (ν k) 0 (fs.set i (.inl j))) := rfl
  rw [← e, wd_setsh hs] at hP1
  rw [hsh]
  exact hP1
/-- the cells under other numbers -/
theorem x_ren (es : List Nat) (hsub : gSub sh sh' es) (hno : sh'.all g_nol = true) (K : xJ p l e R s m args below meth c G A nL Q cells slots sh' (g_sel es q) (g_sel es μ) ν lv st pc) : xJ p l e R s m args below meth c G A nL Q cells slots sh q μ ν lv st pc := by
  intro H locs ls hP hS hl
  exact K H locs ls (wd_nu hno ((gFr_sub (G := G) (q := q) (μ := μ) (ν := ν) (μr := μ) (νr := ν) hsub).1 H hP)) hS hl
theorem g_pret (C : xC p s m args meth c G (gA q sh.length s.heap.size) nL cc own Ts) {n4 : Nat} (hq : gD (gA q sh.length s.heap.size) q' sh.length) (h4 : ∀ k, k < n4 → q' k = q k) {r v : Int32} (hr : meth.sig.returnType = some .int) (hdg : decode cc pc = .ok (.ireturn, 1)) (h1 : v = r) (h2 : μ = μ') (h3 : ν = ν') : xJ p l e R s m args below meth c G (gA q sh.length s.heap.size) nL (MQ below (gQpi G sh q n4 μ' ν' s.heap.size r) args s 0 0 (gA q sh.length s.heap.size)) 0 0 sh q' μ ν lv [.int v] pc := by
  intro H locs ls hP hS hl
  subst h1; subst h2; subst h3
  exact W.iret (v := v) C.1 C.2.1 hr (fun t ht hW => ⟨⟨v, q', rfl, ⟨rfl, h4, hq⟩, by show va_P _ _ _ t.heap; rw [ht]; exact hP⟩, hS.F ht⟩) hS.2.2 hdg C.2.2.1
theorem g_pvret (C : xC p s m args meth c G (gA q sh.length s.heap.size) nL cc own Ts) {n4 : Nat} (hq : gD (gA q sh.length s.heap.size) q' sh.length) (h4 : ∀ k, k < n4 → q' k = q k) (hr : meth.sig.returnType = none) (hdg : decode cc pc = .ok (.return_, 1)) (h2 : μ = μ') (h3 : ν = ν') : xJ p l e R s m args below meth c G (gA q sh.length s.heap.size) nL (MQ below (gQpv G sh q n4 μ' ν' s.heap.size) args s 0 0 (gA q sh.length s.heap.size)) 0 0 sh q' μ ν lv [] pc := by
  intro H locs ls hP hS hl
  subst h2; subst h3
  exact W.vret C.1 C.2.1 hr (fun t ht hW => ⟨⟨q', rfl, ⟨h4, hq⟩, by show va_P _ _ _ t.heap; rw [ht]; exact hP⟩, hS.F ht⟩) hS.2.2 hdg C.2.2.1
variable {y : MethodName} {wsy : List Cond} {rm : Room} {index n maxL : Nat} {bytes : ByteArray} {ret : Option FieldType}
theorem g_dA (hq : gD A q sh.length) (C : xC p s m args meth c G A nL cc own Ts) {H : Heap} {locs : List Loc} (hS : va_S A s.heap H locs) {q' : Nat → Nat} (h : gD (gA q sh.length H.size) q' sh.length) : gD A q' sh.length := by
  refine ⟨h.1, fun k hk => ?_⟩
  rcases h.2 k hk with ⟨j, hj, e⟩ | h9
  · rw [e]; exact hq.2 j hj
  · exact C.2.2.2.2.2.2.2 _ (Nat.le_trans hS.1 h9)
theorem x_callVpv (C : xC p s m args meth c G A nL cc own Ts) (hq : gD A q sh.length) {n4 : Nat} {as : List Value} {ci : Nat} {fs : List gF} {CN : String} {T : u_T} {N : Nat} (hM : gMpv l y wsy rm G sh q n4 μ ν (.ref (q 0) :: as) μ' ν') (cw : CallW R s args own CN index y bytes maxL ret wsy rm 0 0 n) (hsc : sh[0]? = some (.inr (.inl (ci, fs)))) (hcl : vwCl[ci]? = some (CN, T, N)) (hn : as.length = n) (hst : st = as.reverse ++ .ref (q 0) :: st') (hsum : (st'.map fun v => v.category).sum ≤ 8) (hdg : decode cc pc = .ok (.invokevirtual index, 3)) (hc : cells ≤ R.cells) (hs : slots ≤ R.slots) (K : ∀ q', (∀ k, k < n4 → q' k = q k) → gD A q' sh.length → xJ p l e R s m args below meth c G A nL Q cells slots sh q' μ' ν' lv st' (pc + 3)) : xJ p l e R s m args below meth c G A nL Q cells slots sh q μ ν lv st pc := by
  intro H locs ls hP hS hl
  subst hst
  exact va_callv (va_runV (As := as) (rest := st') ⟨C.1, C.2.1, C.2.2.2.1, C.2.2.2.2.1, C.2.2.2.2.2.1⟩ (hM H.size) cw (g_preV C hq (gFr_same (μ' := μ) (ν' := ν)) hP hsc hcl as) rfl hn hl.1 rfl (lv_room hsum) hdg ⟨hc, hs⟩) hS (fun a _ h => g_frA C hq (gFr_same (μ := μ) (ν := ν) (μ' := μ) (ν' := ν) (G := G)) hS a h) (g_frA C hq (gFr_same (μ := μ) (ν := ν) (μ' := μ) (ν' := ν) (G := G)) hS) (fun q' t H1 locs1 ht hvm hw hB hz hk hS1 => by
    have hB : va_P G.1 vwCl (wd G q' μ' ν' 0 sh) t.heap := hB
    rw [ht] at hB
    exact K q' hw.1 (g_dA hq C hS hw.2) H1 locs1 ls hB hS1 hl)
theorem x_callVpi (C : xC p s m args meth c G A nL cc own Ts) (hq : gD A q sh.length) {n4 : Nat} {r : Int32} {as : List Value} {ci : Nat} {fs : List gF} {CN : String} {T : u_T} {N : Nat} (hM : gMpi l y wsy rm G sh q n4 μ ν (.ref (q 0) :: as) μ' ν' r) (cw : CallW R s args own CN index y bytes maxL ret wsy rm 0 0 n) (hsc : sh[0]? = some (.inr (.inl (ci, fs)))) (hcl : vwCl[ci]? = some (CN, T, N)) (hn : as.length = n) (hst : st = as.reverse ++ .ref (q 0) :: st') (hsum : (st'.map fun v => v.category).sum ≤ 8) (hdg : decode cc pc = .ok (.invokevirtual index, 3)) (hc : cells ≤ R.cells) (hs : slots ≤ R.slots) (K : ∀ q', (∀ k, k < n4 → q' k = q k) → gD A q' sh.length → xJ p l e R s m args below meth c G A nL Q cells slots sh q' μ' ν' lv (.int r :: st') (pc + 3)) : xJ p l e R s m args below meth c G A nL Q cells slots sh q μ ν lv st pc := by
  intro H locs ls hP hS hl
  subst hst
  exact va_calli (va_runV (As := as) (rest := st') ⟨C.1, C.2.1, C.2.2.2.1, C.2.2.2.2.1, C.2.2.2.2.2.1⟩ (hM H.size) cw (g_preV C hq (gFr_same (μ' := μ) (ν' := ν)) hP hsc hcl as) rfl hn hl.1 rfl (lv_room hsum) hdg ⟨hc, hs⟩) hS (fun a _ h => g_frA C hq (gFr_same (μ := μ) (ν := ν) (μ' := μ) (ν' := ν) (G := G)) hS a h) (g_frA C hq (gFr_same (μ := μ) (ν := ν) (μ' := μ) (ν' := ν) (G := G)) hS) (fun r' q' t H1 locs1 ht hvm hw hB hz hk hS1 => by
    have hw1 : r' = r := hw.1
    subst hw1
    have hB : va_P G.1 vwCl (wd G q' μ' ν' 0 sh) t.heap := hB
    rw [ht] at hB
    exact K q' hw.2.1 (g_dA hq C hS hw.2.2) H1 locs1 ls hB hS1 hl)
end XR
