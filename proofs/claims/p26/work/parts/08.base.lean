abbrev vwCl : List vw_C := [(RX0, TX0, 4), (RX1, TX1, 17), (RX2, TX2, 7)]
/-! ===== pictures of worlds by their shape: a cell is an int array, an object, an array of references, or a long array ===== -/
abbrev gF : Type := Nat ⊕ Option Bool
abbrev gC : Type := Nat ⊕ ((Nat × List gF) ⊕ (List (Option Nat) ⊕ Nat))
abbrev gG : Type := va_G × (ClassId × (ClassId × ClassId))
abbrev gM : Type := Nat → Nat → Int32
abbrev gN : Type := Nat → Nat → Int64
def g_fld (q : Nat → Nat) (f : Nat → Int32) (h : Nat → Int64) (i : Nat) (d : gF) : Value := match d with
  | .inl j => .ref (q j)
  | .inr none => .null
  | .inr (some false) => .int (f i)
  | .inr (some true) => .long (h i)
def g_flds (q : Nat → Nat) (f : Nat → Int32) (h : Nat → Int64) : Nat → List gF → List Value
  | _, [] => []
  | i, d :: ds => g_fld q f h i d :: g_flds q f h (i + 1) ds
def g_cell (G : gG) (q : Nat → Nat) (μ : gM) (ν : gN) (k : Nat) (d : gC) : va_E := match d with
  | .inl n => .inl (G.2.1, n, .inl (μ k))
  | .inr (.inl o) => .inr (o.1, g_flds q (μ k) (ν k) 0 o.2)
  | .inr (.inr (.inl ids)) => .inl (G.2.2.2, ids.length, .inr (.inr (.inr (.inr (fun i => (ids.getD i none).map q)))))
  | .inr (.inr (.inr n)) => .inl (G.2.2.1, n, .inr (.inl (ν k)))
def wd (G : gG) (q : Nat → Nat) (μ : gM) (ν : gN) : Nat → List gC → va_W
  | _, [] => []
  | k, d :: ds => (q k, g_cell G q μ ν k d) :: wd G q μ ν (k + 1) ds
theorem g_flds_get (q : Nat → Nat) (f : Nat → Int32) (h : Nat → Int64) : ∀ (ds : List gF) (b i : Nat), (g_flds q f h b ds)[i]? = (ds[i]?).map (fun d => g_fld q f h (b + i) d) := by
  intro ds
  induction ds with
  | nil => intro b i; simp [g_flds]
  | cons d ds ih =>
    intro b i
    cases i with
    | zero => simp [g_flds]
    | succ i => simp only [g_flds, List.getElem?_cons_succ, ih (b + 1) i]; rw [show b + 1 + i = b + (i + 1) from by omega]
theorem g_flds_len (q : Nat → Nat) (f : Nat → Int32) (h : Nat → Int64) : ∀ (ds : List gF) (b : Nat), (g_flds q f h b ds).length = ds.length := by
  intro ds
  induction ds with
  | nil => intro b; rfl
  | cons d ds ih => intro b; simp [g_flds, ih (b + 1)]
theorem wd_get (G : gG) (q : Nat → Nat) (μ : gM) (ν : gN) : ∀ (sh : List gC) (b k : Nat), (wd G q μ ν b sh)[k]? = (sh[k]?).map (fun d => (q (b + k), g_cell G q μ ν (b + k) d)) := by
  intro sh
  induction sh with
  | nil => intro b k; simp [wd]
  | cons d ds ih =>
    intro b k
    cases k with
    | zero => simp [wd]
    | succ k => simp only [wd, List.getElem?_cons_succ, ih (b + 1) k]; rw [show b + 1 + k = b + (k + 1) from by omega]
theorem wd_at {G : gG} {q : Nat → Nat} {μ : gM} {ν : gN} {sh : List gC} {k : Nat} {d : gC} (h : sh[k]? = some d) : (wd G q μ ν 0 sh)[k]? = some (q k, g_cell G q μ ν k d) := by
  rw [wd_get, h]; simp
theorem wd_of {G : gG} {q : Nat → Nat} {μ : gM} {ν : gN} {sh : List gC} {k : Nat} {z : Nat × va_E} (h : (wd G q μ ν 0 sh)[k]? = some z) : ∃ d, sh[k]? = some d ∧ z = (q k, g_cell G q μ ν k d) := by
  rw [wd_get] at h
  cases hd : sh[k]? with
  | none => rw [hd] at h; simp at h
  | some d => rw [hd] at h; simp at h; exact ⟨d, rfl, h.symm⟩
theorem g_lt {α : Type} {l : List α} {k : Nat} {d : α} (h : l[k]? = some d) : k < l.length := (List.getElem?_eq_some_iff.mp h).1
/-- the addresses are apart, and allowed -/
def gD (A : Nat → Prop) (q : Nat → Nat) (n : Nat) : Prop := (∀ i j, i < n → j < n → q i = q j → i = j) ∧ ∀ k, k < n → A (q k)
def gA (q : Nat → Nat) (n sz : Nat) : Nat → Prop := fun a => (∃ k, k < n ∧ a = q k) ∨ sz ≤ a
theorem gD_wd {A : Nat → Prop} {q : Nat → Nat} {sh : List gC} (h : gD A q sh.length) (G : gG) (μ : gM) (ν : gN) : va_D A (wd G q μ ν 0 sh) := by
  refine ⟨fun i j x y hi hj hxy => ?_, fun k x hk => ?_⟩
  · obtain ⟨d, h1, rfl⟩ := wd_of hi
    obtain ⟨d', h2, rfl⟩ := wd_of hj
    exact h.1 i j (g_lt h1) (g_lt h2) hxy
  · obtain ⟨d, h1, rfl⟩ := wd_of hk
    exact h.2 k (g_lt h1)
theorem gD_of {A B : Nat → Prop} {q : Nat → Nat} {sh : List gC} {G : gG} {μ : gM} {ν : gN} (h : va_D A (wd G q μ ν 0 sh)) (hB : ∀ k, k < sh.length → B (q k)) : gD B q sh.length := by
  refine ⟨fun i j hi hj hxy => ?_, hB⟩
  exact h.1 i j _ _ (wd_at (List.getElem?_eq_getElem hi)) (wd_at (List.getElem?_eq_getElem hj)) hxy
def g_set (μ : gM) (k : Nat) (f : Nat → Int32) : gM := fun j => if j = k then f else μ j
def g_setN (ν : gN) (k : Nat) (f : Nat → Int64) : gN := fun j => if j = k then f else ν j
theorem g_set_s {μ : gM} {k : Nat} {f : Nat → Int32} : g_set μ k f k = f := if_pos rfl
theorem g_set_n {μ : gM} {k j : Nat} {f : Nat → Int32} (h : j ≠ k) : g_set μ k f j = μ j := if_neg h
theorem g_setN_s {ν : gN} {k : Nat} {f : Nat → Int64} : g_setN ν k f k = f := if_pos rfl
theorem g_setN_n {ν : gN} {k j : Nat} {f : Nat → Int64} (h : j ≠ k) : g_setN ν k f j = ν j := if_neg h
theorem g_cell_cong {G : gG} {q : Nat → Nat} {μ μ' : gM} {ν ν' : gN} {k : Nat} {d : gC} (h : μ' k = μ k) (h2 : ν' k = ν k) : g_cell G q μ' ν' k d = g_cell G q μ ν k d := by
  unfold g_cell; rw [h, h2]
/-- one cell's new content -/
theorem wd_set {G : gG} {q : Nat → Nat} {μ μ' : gM} {ν ν' : gN} {sh : List gC} {k : Nat} {d : gC} (h : sh[k]? = some d) (ho : ∀ j, j ≠ k → μ' j = μ j ∧ ν' j = ν j) : (wd G q μ ν 0 sh).set k (q k, g_cell G q μ' ν' k d) = wd G q μ' ν' 0 sh := by
  apply List.ext_getElem?
  intro j
  rw [List.getElem?_set]
  by_cases hj : k = j
  · subst hj
    rw [if_pos rfl, wd_at h, if_pos]
    have := g_lt (wd_at (G := G) (q := q) (μ := μ) (ν := ν) h)
    exact this
  · rw [if_neg hj, wd_get, wd_get]
    cases hs : sh[j]? with
    | none => rfl
    | some d' =>
      have h9 := ho j (fun e => hj e.symm)
      simp only [Option.map_some, Nat.zero_add]
      rw [g_cell_cong h9.1 h9.2]
theorem g_flds_set (q : Nat → Nat) (f : Nat → Int32) (h : Nat → Int64) (x : Int32) : ∀ (ds : List gF) (b i : Nat), ds[i]? = some (.inr (some false)) → (g_flds q f h b ds).set i (.int x) = g_flds q (upd f (b + i) x) h b ds := by
  intro ds
  induction ds with
  | nil => intro b i hi; simp at hi
  | cons d ds ih =>
    intro b i hi
    have other : ∀ (e : gF) (c : Nat), c ≠ b + i → g_fld q f h c e = g_fld q (upd f (b + i) x) h c e := by
      intro e c hc
      unfold g_fld
      rcases e with j | (_ | (_ | _)) <;> simp [upd, hc]
    cases i with
    | zero =>
      simp only [List.getElem?_cons_zero, Option.some.injEq] at hi
      subst hi
      simp only [g_flds, List.set_cons_zero]
      congr 1
      · simp [g_fld, upd]
      · have : ∀ (es : List gF) (c : Nat), b < c → g_flds q f h c es = g_flds q (upd f (b + 0) x) h c es := by
          intro es
          induction es with
          | nil => intro c _; rfl
          | cons e es ih2 =>
            intro c hc
            simp only [g_flds]
            rw [other e c (by omega), ih2 (c + 1) (by omega)]
        exact this ds (b + 1) (by omega)
    | succ i =>
      simp only [List.getElem?_cons_succ] at hi
      simp only [g_flds, List.set_cons_succ]
      rw [ih (b + 1) i hi, show b + 1 + i = b + (i + 1) from by omega, other d b (by omega)]
theorem g_flds_setN (q : Nat → Nat) (f : Nat → Int32) (h : Nat → Int64) (x : Int64) : ∀ (ds : List gF) (b i : Nat), ds[i]? = some (.inr (some true)) → (g_flds q f h b ds).set i (.long x) = g_flds q f (vp_updL h (b + i) x) b ds := by
  intro ds
  induction ds with
  | nil => intro b i hi; simp at hi
  | cons d ds ih =>
    intro b i hi
    have other : ∀ (e : gF) (c : Nat), c ≠ b + i → g_fld q f h c e = g_fld q f (vp_updL h (b + i) x) c e := by
      intro e c hc
      unfold g_fld
      rcases e with j | (_ | (_ | _)) <;> simp [vp_updL, hc]
    cases i with
    | zero =>
      simp only [List.getElem?_cons_zero, Option.some.injEq] at hi
      subst hi
      simp only [g_flds, List.set_cons_zero]
      congr 1
      · simp [g_fld, vp_updL]
      · have : ∀ (es : List gF) (c : Nat), b < c → g_flds q f h c es = g_flds q f (vp_updL h (b + 0) x) c es := by
          intro es
          induction es with
          | nil => intro c _; rfl
          | cons e es ih2 =>
            intro c hc
            simp only [g_flds]
            rw [other e c (by omega), ih2 (c + 1) (by omega)]
        exact this ds (b + 1) (by omega)
    | succ i =>
      simp only [List.getElem?_cons_succ] at hi
      simp only [g_flds, List.set_cons_succ]
      rw [ih (b + 1) i hi, show b + 1 + i = b + (i + 1) from by omega, other d b (by omega)]
/-! loops as functions; what stands behind g_let and run is not unfolded by reduction -/
noncomputable def g_let {α β : Sort _} (x : α) (f : α → β) : β := Classical.choose (p := fun y => y = f x) ⟨f x, rfl⟩
theorem g_let_def {α β : Sort _} (x : α) (f : α → β) : g_let x f = f x := Classical.choose_spec (p := fun y => y = f x) ⟨f x, rfl⟩
def runC {S : Type} (f : S → Bool × S) : Nat → S → S
  | 0, z => z
  | n + 1, z => if (f z).1 = true then runC f n (f z).2 else (f z).2
noncomputable def run {S : Type} (f : S → Bool × S) (n : Nat) (z : S) : S := g_let (runC f n z) (fun y => y)
theorem run_def {S : Type} (f : S → Bool × S) (n : Nat) (z : S) : run f n z = runC f n z := g_let_def _ _
def rOk {S : Type} (f : S → Bool × S) (ok : S → Prop) : Nat → S → Prop
  | 0, _ => False
  | n + 1, z => ok z ∧ ((f z).1 = true → rOk f ok n (f z).2)
theorem run_t {S : Type} {f : S → Bool × S} {n : Nat} {z z' : S} (h : f z = (true, z')) : run f (n + 1) z = run f n z' := by
  rw [run_def, run_def]; simp [runC, h]
theorem run_f {S : Type} {f : S → Bool × S} {n : Nat} {z z' : S} (h : f z = (false, z')) : run f (n + 1) z = z' := by
  rw [run_def]; simp [runC, h]
theorem rOk_1 {S : Type} {f : S → Bool × S} {ok : S → Prop} {n : Nat} {z : S} (w : rOk f ok (n + 1) z) : ok z := w.1
theorem rOk_2 {S : Type} {f : S → Bool × S} {ok : S → Prop} {n : Nat} {z : S} (w : rOk f ok (n + 1) z) : (f z).1 = true → rOk f ok n (f z).2 := w.2
theorem rOk_0 {S : Type} {f : S → Bool × S} {ok : S → Prop} {z : S} {P : Prop} (w : rOk f ok 0 z) : P := False.elim w
theorem rOk_t {S : Type} {f : S → Bool × S} {ok : S → Prop} {n : Nat} {z z' : S} (w : (f z).1 = true → rOk f ok n (f z).2) (h : f z = (true, z')) : rOk f ok n z' := by
  rw [h] at w; exact w rfl
theorem g_let_eq {α : Sort _} {β : Sort _} {x z : α} {f : α → β} (h : z = x) : g_let x f = f z := by subst h; exact g_let_def _ _
theorem g_let_p {α : Sort _} {x z : α} {f : α → Prop} (h : z = x) (w : g_let x f) : f z := by subst h; rw [g_let_def] at w; exact w
theorem g_ip {c A B : Prop} [Decidable c] (h : c) (w : if c then A else B) : A := by rw [if_pos h] at w; exact w
theorem g_in {c A B : Prop} [Decidable c] (h : ¬ c) (w : if c then A else B) : B := by rw [if_neg h] at w; exact w
/-! ===== the judgement over pictures ===== -/
abbrev gT (G : gG) : List (ClassId × FieldType) := [(G.2.1, .int), (G.2.2.1, .long), (G.2.2.2, .object "HintedPages$Store")]
def gK (G : gG) (s : State) : Prop := va_K G.1 vwCl (gT G) s
section XJ
variable {p : Program} {l : Launch} {e : Env} {R : Room} {s : State} {m : MethodId} {args : Array Value} {below : List Frame} {meth : Method} {c : Code} {G : gG} {A : Nat → Prop} {nL : Nat} {Q : State → Prop} {cells slots : Nat} {sh : List gC} {q : Nat → Nat} {μ μ' : gM} {ν ν' : gN} {lv lv' : List (Nat × Value)} {st : List Value} {pc : Nat}
variable {cc : ByteArray} {own : String} {Ts : List Cond}
def xJ (p : Program) (l : Launch) (e : Env) (R : Room) (s : State) (m : MethodId) (args : Array Value) (below : List Frame) (meth : Method) (c : Code) (G : gG) (A : Nat → Prop) (nL : Nat) (Q : State → Prop) (cells slots : Nat) (sh : List gC) (q : Nat → Nat) (μ : gM) (ν : gN) (lv : List (Nat × Value)) (st : List Value) (pc : Nat) : Prop :=
  ∀ (H : Heap) (locs : List Loc) (ls : Array Slot), va_P G.1 vwCl (wd G q μ ν 0 sh) H → va_S A s.heap H locs → lv_has ls nL lv → W p l e R s m args below meth c H locs cells slots Q (F0 m pc ls st)
def xC (p : Program) (s : State) (m : MethodId) (args : Array Value) (meth : Method) (c : Code) (G : gG) (A : Nat → Prop) (nL : Nat) (cc : ByteArray) (own : String) (Ts : List Cond) : Prop :=
  p.tables.exec = Jvm.exec ∧ c.code = cc ∧ meth.locks = false ∧ c.maxLocals = nL ∧ s.vm.findClass own = some m.cls ∧ (∀ w ∈ Ts, w.before args s = true) ∧ gK G s ∧ (∀ a, s.heap.size ≤ a → A a)
theorem x_iconst (C : xC p s m args meth c G A nL cc own Ts) {n : Int} {v : Int32} (d : decode cc pc = .ok (.iconst n, 1)) (hv : Int32.ofInt n = v) (k : xJ p l e R s m args below meth c G A nL Q cells slots sh q μ ν lv (.int v :: st) (pc + 1)) : xJ p l e R s m args below meth c G A nL Q cells slots sh q μ ν lv st pc := fun H locs ls hP hS hl => lv_iconst C.1 C.2.1 d hv (k H locs ls hP hS hl)
theorem x_bipush (C : xC p s m args meth c G A nL cc own Ts) {n : Int} {v : Int32} (d : decode cc pc = .ok (.bipush n, 2)) (hv : (Int8.ofInt n).toInt32 = v) (k : xJ p l e R s m args below meth c G A nL Q cells slots sh q μ ν lv (.int v :: st) (pc + 2)) : xJ p l e R s m args below meth c G A nL Q cells slots sh q μ ν lv st pc := fun H locs ls hP hS hl => lv_bipush C.1 C.2.1 d hv (k H locs ls hP hS hl)
theorem x_sipush (C : xC p s m args meth c G A nL cc own Ts) {n : Int} {v : Int32} (d : decode cc pc = .ok (.sipush n, 3)) (hv : (Int16.ofInt n).toInt32 = v) (k : xJ p l e R s m args below meth c G A nL Q cells slots sh q μ ν lv (.int v :: st) (pc + 3)) : xJ p l e R s m args below meth c G A nL Q cells slots sh q μ ν lv st pc := fun H locs ls hP hS hl => lv_sipush C.1 C.2.1 d hv (k H locs ls hP hS hl)
theorem x_lconst (C : xC p s m args meth c G A nL cc own Ts) {n : Fin 2} {v : Int64} (d : decode cc pc = .ok (.lconst n, 1)) (hv : Int64.ofNat (n : Nat) = v) (k : xJ p l e R s m args below meth c G A nL Q cells slots sh q μ ν lv (.long v :: st) (pc + 1)) : xJ p l e R s m args below meth c G A nL Q cells slots sh q μ ν lv st pc := fun H locs ls hP hS hl => lv_lconst C.1 C.2.1 d hv (k H locs ls hP hS hl)
theorem x_iload_n (C : xC p s m args meth c G A nL cc own Ts) {j : Fin 4} {i : Nat} {x : Int32} (d : decode cc pc = .ok (.iload_n j, 1)) (hi : (j : Nat) = i) (a : Nat) (ha : lv[a]? = some (i, .int x)) (k : xJ p l e R s m args below meth c G A nL Q cells slots sh q μ ν lv (.int x :: st) (pc + 1)) : xJ p l e R s m args below meth c G A nL Q cells slots sh q μ ν lv st pc := fun H locs ls hP hS hl => lv_iload_n C.1 C.2.1 d hi (lv_at hl a ha) (k H locs ls hP hS hl)
theorem x_iload (C : xC p s m args meth c G A nL cc own Ts) {i : Nat} {x : Int32} (d : decode cc pc = .ok (.iload i, 2)) (a : Nat) (ha : lv[a]? = some (i, .int x)) (k : xJ p l e R s m args below meth c G A nL Q cells slots sh q μ ν lv (.int x :: st) (pc + 2)) : xJ p l e R s m args below meth c G A nL Q cells slots sh q μ ν lv st pc := fun H locs ls hP hS hl => lv_iload C.1 C.2.1 d (lv_at hl a ha) (k H locs ls hP hS hl)
theorem x_lload_n (C : xC p s m args meth c G A nL cc own Ts) {j : Fin 4} {i : Nat} {x : Int64} (d : decode cc pc = .ok (.lload_n j, 1)) (hi : (j : Nat) = i) (a : Nat) (ha : lv[a]? = some (i, .long x)) (k : xJ p l e R s m args below meth c G A nL Q cells slots sh q μ ν lv (.long x :: st) (pc + 1)) : xJ p l e R s m args below meth c G A nL Q cells slots sh q μ ν lv st pc := fun H locs ls hP hS hl => lv_lload_n C.1 C.2.1 d hi (lv_at hl a ha) (k H locs ls hP hS hl)
theorem x_dload_n (C : xC p s m args meth c G A nL cc own Ts) {j : Fin 4} {i : Nat} {x : UInt64} (d : decode cc pc = .ok (.dload_n j, 1)) (hi : (j : Nat) = i) (a : Nat) (ha : lv[a]? = some (i, .double x)) (k : xJ p l e R s m args below meth c G A nL Q cells slots sh q μ ν lv (.double x :: st) (pc + 1)) : xJ p l e R s m args below meth c G A nL Q cells slots sh q μ ν lv st pc := fun H locs ls hP hS hl => lv_dload_n C.1 C.2.1 d hi (lv_at hl a ha) (k H locs ls hP hS hl)
theorem x_aload_n (C : xC p s m args meth c G A nL cc own Ts) {j : Fin 4} {i : Nat} {x : Nat} (d : decode cc pc = .ok (.aload_n j, 1)) (hi : (j : Nat) = i) (a : Nat) (ha : lv[a]? = some (i, .ref x)) (k : xJ p l e R s m args below meth c G A nL Q cells slots sh q μ ν lv (.ref x :: st) (pc + 1)) : xJ p l e R s m args below meth c G A nL Q cells slots sh q μ ν lv st pc := fun H locs ls hP hS hl => lv_aload_n C.1 C.2.1 d hi (lv_at hl a ha) (k H locs ls hP hS hl)
theorem x_istore_n (C : xC p s m args meth c G A nL cc own Ts) {j : Fin 4} {i : Nat} {x : Int32} (d : decode cc pc = .ok (.istore_n j, 1)) (hi : (j : Nat) = i) (hn : i < nL) (ks : List Nat) (hk : lv_pick ((i, Value.int x) :: lv.filter (fun q => !(q.1 == i) && !(q.1 + 1 == i && q.2.category == 2))) ks = lv') (k : xJ p l e R s m args below meth c G A nL Q cells slots sh q μ ν lv' st (pc + 1)) : xJ p l e R s m args below meth c G A nL Q cells slots sh q μ ν lv (.int x :: st) pc := fun H locs ls hP hS hl => lv_istore_n C.1 C.2.1 d hi hl hn rfl (fun ls hl => k H locs ls hP hS (lv_sub hl ks hk))
theorem x_istore (C : xC p s m args meth c G A nL cc own Ts) {i : Nat} {x : Int32} (d : decode cc pc = .ok (.istore i, 2)) (hn : i < nL) (ks : List Nat) (hk : lv_pick ((i, Value.int x) :: lv.filter (fun q => !(q.1 == i) && !(q.1 + 1 == i && q.2.category == 2))) ks = lv') (k : xJ p l e R s m args below meth c G A nL Q cells slots sh q μ ν lv' st (pc + 2)) : xJ p l e R s m args below meth c G A nL Q cells slots sh q μ ν lv (.int x :: st) pc := fun H locs ls hP hS hl => lv_istore C.1 C.2.1 d hl hn rfl (fun ls hl => k H locs ls hP hS (lv_sub hl ks hk))
theorem x_lstore_n (C : xC p s m args meth c G A nL cc own Ts) {j : Fin 4} {i : Nat} {x : Int64} (d : decode cc pc = .ok (.lstore_n j, 1)) (hi : (j : Nat) = i) (hn : i + 1 < nL) (ks : List Nat) (hk : lv_pick ((i, Value.long x) :: lv.filter (fun q => !(q.1 == i) && (!(q.1 == i + 1) && !(q.1 + 1 == i && q.2.category == 2)))) ks = lv') (k : xJ p l e R s m args below meth c G A nL Q cells slots sh q μ ν lv' st (pc + 1)) : xJ p l e R s m args below meth c G A nL Q cells slots sh q μ ν lv (.long x :: st) pc := fun H locs ls hP hS hl => lv_lstore_n C.1 C.2.1 d hi hl hn rfl (fun ls hl => k H locs ls hP hS (lv_sub hl ks hk))
theorem x_dstore_n (C : xC p s m args meth c G A nL cc own Ts) {j : Fin 4} {i : Nat} {x : UInt64} (d : decode cc pc = .ok (.dstore_n j, 1)) (hi : (j : Nat) = i) (hn : i + 1 < nL) (ks : List Nat) (hk : lv_pick ((i, Value.double x) :: lv.filter (fun q => !(q.1 == i) && (!(q.1 == i + 1) && !(q.1 + 1 == i && q.2.category == 2)))) ks = lv') (k : xJ p l e R s m args below meth c G A nL Q cells slots sh q μ ν lv' st (pc + 1)) : xJ p l e R s m args below meth c G A nL Q cells slots sh q μ ν lv (.double x :: st) pc := fun H locs ls hP hS hl => lv_dstore_n C.1 C.2.1 d hi hl hn rfl (fun ls hl => k H locs ls hP hS (lv_sub hl ks hk))
theorem x_iinc (C : xC p s m args meth c G A nL cc own Ts) {i : Nat} {n : Int} {x v : Int32} (d : decode cc pc = .ok (.iinc i n, 3)) (a : Nat) (ha : lv[a]? = some (i, .int x)) (hv : x + Int32.ofInt n = v) (hn : i < nL) (ks : List Nat) (hk : lv_pick ((i, Value.int v) :: lv.filter (fun q => !(q.1 == i) && !(q.1 + 1 == i && q.2.category == 2))) ks = lv') (k : xJ p l e R s m args below meth c G A nL Q cells slots sh q μ ν lv' st (pc + 3)) : xJ p l e R s m args below meth c G A nL Q cells slots sh q μ ν lv st pc := fun H locs ls hP hS hl => lv_iinc C.1 C.2.1 d hl ha hv hn rfl (fun ls hl => k H locs ls hP hS (lv_sub hl ks hk))
theorem x_lv (ks : List Nat) (hk : lv_pick lv ks = lv') (k : xJ p l e R s m args below meth c G A nL Q cells slots sh q μ ν lv' st pc) : xJ p l e R s m args below meth c G A nL Q cells slots sh q μ ν lv st pc := fun H locs ls hP hS hl => k H locs ls hP hS (lv_sub hl ks hk)
theorem x_iadd (C : xC p s m args meth c G A nL cc own Ts) {x y : Int32} (d : decode cc pc = .ok (.iadd, 1)) (k : xJ p l e R s m args below meth c G A nL Q cells slots sh q μ ν lv (.int (x + y) :: st) (pc + 1)) : xJ p l e R s m args below meth c G A nL Q cells slots sh q μ ν lv (.int y :: .int x :: st) pc := fun H locs ls hP hS hl => lv_iadd C.1 C.2.1 d (k H locs ls hP hS hl)
theorem x_isub (C : xC p s m args meth c G A nL cc own Ts) {x y : Int32} (d : decode cc pc = .ok (.isub, 1)) (k : xJ p l e R s m args below meth c G A nL Q cells slots sh q μ ν lv (.int (x - y) :: st) (pc + 1)) : xJ p l e R s m args below meth c G A nL Q cells slots sh q μ ν lv (.int y :: .int x :: st) pc := fun H locs ls hP hS hl => lv_isub C.1 C.2.1 d (k H locs ls hP hS hl)
theorem x_imul (C : xC p s m args meth c G A nL cc own Ts) {x y : Int32} (d : decode cc pc = .ok (.imul, 1)) (k : xJ p l e R s m args below meth c G A nL Q cells slots sh q μ ν lv (.int (x * y) :: st) (pc + 1)) : xJ p l e R s m args below meth c G A nL Q cells slots sh q μ ν lv (.int y :: .int x :: st) pc := fun H locs ls hP hS hl => lv_imul C.1 C.2.1 d (k H locs ls hP hS hl)
theorem x_iand (C : xC p s m args meth c G A nL cc own Ts) {x y : Int32} (d : decode cc pc = .ok (.iand, 1)) (k : xJ p l e R s m args below meth c G A nL Q cells slots sh q μ ν lv (.int (x &&& y) :: st) (pc + 1)) : xJ p l e R s m args below meth c G A nL Q cells slots sh q μ ν lv (.int y :: .int x :: st) pc := fun H locs ls hP hS hl => lv_iand C.1 C.2.1 d (k H locs ls hP hS hl)
theorem x_ior (C : xC p s m args meth c G A nL cc own Ts) {x y : Int32} (d : decode cc pc = .ok (.ior, 1)) (k : xJ p l e R s m args below meth c G A nL Q cells slots sh q μ ν lv (.int (x ||| y) :: st) (pc + 1)) : xJ p l e R s m args below meth c G A nL Q cells slots sh q μ ν lv (.int y :: .int x :: st) pc := fun H locs ls hP hS hl => lv_ior C.1 C.2.1 d (k H locs ls hP hS hl)
theorem x_ishl (C : xC p s m args meth c G A nL cc own Ts) {x y : Int32} (d : decode cc pc = .ok (.ishl, 1)) (k : xJ p l e R s m args below meth c G A nL Q cells slots sh q μ ν lv (.int (x <<< (y &&& 31)) :: st) (pc + 1)) : xJ p l e R s m args below meth c G A nL Q cells slots sh q μ ν lv (.int y :: .int x :: st) pc := fun H locs ls hP hS hl => lv_ishl C.1 C.2.1 d (k H locs ls hP hS hl)
theorem x_ishr (C : xC p s m args meth c G A nL cc own Ts) {x y : Int32} (d : decode cc pc = .ok (.ishr, 1)) (k : xJ p l e R s m args below meth c G A nL Q cells slots sh q μ ν lv (.int (x >>> (y &&& 31)) :: st) (pc + 1)) : xJ p l e R s m args below meth c G A nL Q cells slots sh q μ ν lv (.int y :: .int x :: st) pc := fun H locs ls hP hS hl => lv_ishr C.1 C.2.1 d (k H locs ls hP hS hl)
theorem x_iushr (C : xC p s m args meth c G A nL cc own Ts) {x y v : Int32} (d : decode cc pc = .ok (.iushr, 1)) (hv : (x.toUInt32 >>> (y.toUInt32 &&& Int32.toUInt32 31)).toInt32 = v) (k : xJ p l e R s m args below meth c G A nL Q cells slots sh q μ ν lv (.int v :: st) (pc + 1)) : xJ p l e R s m args below meth c G A nL Q cells slots sh q μ ν lv (.int y :: .int x :: st) pc := fun H locs ls hP hS hl => lv_iushr C.1 C.2.1 d hv (k H locs ls hP hS hl)
theorem x_idiv (C : xC p s m args meth c G A nL cc own Ts) {x y : Int32} (d : decode cc pc = .ok (.idiv, 1)) (hne : ¬ y = 0) (k : xJ p l e R s m args below meth c G A nL Q cells slots sh q μ ν lv (.int (x / y) :: st) (pc + 1)) : xJ p l e R s m args below meth c G A nL Q cells slots sh q μ ν lv (.int y :: .int x :: st) pc := fun H locs ls hP hS hl => lv_idiv C.1 C.2.1 d hne (k H locs ls hP hS hl)
theorem x_irem (C : xC p s m args meth c G A nL cc own Ts) {x y : Int32} (d : decode cc pc = .ok (.irem, 1)) (hne : ¬ y = 0) (k : xJ p l e R s m args below meth c G A nL Q cells slots sh q μ ν lv (.int (x - x / y * y) :: st) (pc + 1)) : xJ p l e R s m args below meth c G A nL Q cells slots sh q μ ν lv (.int y :: .int x :: st) pc := fun H locs ls hP hS hl => lv_irem C.1 C.2.1 d hne (k H locs ls hP hS hl)
theorem x_ladd (C : xC p s m args meth c G A nL cc own Ts) {x y : Int64} (d : decode cc pc = .ok (.ladd, 1)) (k : xJ p l e R s m args below meth c G A nL Q cells slots sh q μ ν lv (.long (x + y) :: st) (pc + 1)) : xJ p l e R s m args below meth c G A nL Q cells slots sh q μ ν lv (.long y :: .long x :: st) pc := fun H locs ls hP hS hl => lv_ladd C.1 C.2.1 d (k H locs ls hP hS hl)
theorem x_lmul (C : xC p s m args meth c G A nL cc own Ts) {x y : Int64} (d : decode cc pc = .ok (.lmul, 1)) (k : xJ p l e R s m args below meth c G A nL Q cells slots sh q μ ν lv (.long (x * y) :: st) (pc + 1)) : xJ p l e R s m args below meth c G A nL Q cells slots sh q μ ν lv (.long y :: .long x :: st) pc := fun H locs ls hP hS hl => lv_lmul C.1 C.2.1 d (k H locs ls hP hS hl)
theorem x_lshl (C : xC p s m args meth c G A nL cc own Ts) {x v : Int64} {y : Int32} (d : decode cc pc = .ok (.lshl, 1)) (hv : x <<< (y.toInt64 &&& 63) = v) (k : xJ p l e R s m args below meth c G A nL Q cells slots sh q μ ν lv (.long v :: st) (pc + 1)) : xJ p l e R s m args below meth c G A nL Q cells slots sh q μ ν lv (.int y :: .long x :: st) pc := fun H locs ls hP hS hl => lv_lshl C.1 C.2.1 d hv (k H locs ls hP hS hl)
theorem x_i2l (C : xC p s m args meth c G A nL cc own Ts) {x : Int32} {v : Int64} (d : decode cc pc = .ok (.i2l, 1)) (hv : x.toInt64 = v) (k : xJ p l e R s m args below meth c G A nL Q cells slots sh q μ ν lv (.long v :: st) (pc + 1)) : xJ p l e R s m args below meth c G A nL Q cells slots sh q μ ν lv (.int x :: st) pc := fun H locs ls hP hS hl => lv_i2l C.1 C.2.1 d hv (k H locs ls hP hS hl)
theorem x_dup (C : xC p s m args meth c G A nL cc own Ts) {v : Value} (d : decode cc pc = .ok (.dup, 1)) (hv : v.category = 1) (k : xJ p l e R s m args below meth c G A nL Q cells slots sh q μ ν lv (v :: v :: st) (pc + 1)) : xJ p l e R s m args below meth c G A nL Q cells slots sh q μ ν lv (v :: st) pc := fun H locs ls hP hS hl => lv_dup C.1 C.2.1 d hv (k H locs ls hP hS hl)
theorem x_pop (C : xC p s m args meth c G A nL cc own Ts) {v : Value} (d : decode cc pc = .ok (.pop, 1)) (hv : v.category = 1) (k : xJ p l e R s m args below meth c G A nL Q cells slots sh q μ ν lv st (pc + 1)) : xJ p l e R s m args below meth c G A nL Q cells slots sh q μ ν lv (v :: st) pc := fun H locs ls hP hS hl => lv_pop C.1 C.2.1 d hv (k H locs ls hP hS hl)
theorem x_goto (C : xC p s m args meth c G A nL cc own Ts) {off : Int} {tgt : Nat} (d : decode cc pc = .ok (.goto off, 3)) (ht : (pc : Int) + off = (tgt : Int)) (k : xJ p l e R s m args below meth c G A nL Q cells slots sh q μ ν lv st tgt) : xJ p l e R s m args below meth c G A nL Q cells slots sh q μ ν lv st pc := fun H locs ls hP hS hl => lv_goto C.1 C.2.1 d ht (k H locs ls hP hS hl)
theorem x_if_eq (C : xC p s m args meth c G A nL cc own Ts) {x : Int32} {off : Int} {tgt : Nat} (d : decode cc pc = .ok (.ifCond .eq off, 3)) (ht : (pc : Int) + off = (tgt : Int)) (kt : x = 0 → xJ p l e R s m args below meth c G A nL Q cells slots sh q μ ν lv st tgt) (kf : ¬ x = 0 → xJ p l e R s m args below meth c G A nL Q cells slots sh q μ ν lv st (pc + 3)) : xJ p l e R s m args below meth c G A nL Q cells slots sh q μ ν lv (.int x :: st) pc := fun H locs ls hP hS hl => lv_if_eq C.1 C.2.1 d ht (fun h => kt h H locs ls hP hS hl) (fun h => kf h H locs ls hP hS hl)
theorem x_icmp_eq (C : xC p s m args meth c G A nL cc own Ts) {x y : Int32} {off : Int} {tgt : Nat} (d : decode cc pc = .ok (.if_icmp .eq off, 3)) (ht : (pc : Int) + off = (tgt : Int)) (kt : x = y → xJ p l e R s m args below meth c G A nL Q cells slots sh q μ ν lv st tgt) (kf : ¬ x = y → xJ p l e R s m args below meth c G A nL Q cells slots sh q μ ν lv st (pc + 3)) : xJ p l e R s m args below meth c G A nL Q cells slots sh q μ ν lv (.int y :: .int x :: st) pc := fun H locs ls hP hS hl => lv_icmp_eq C.1 C.2.1 d ht (fun h => kt h H locs ls hP hS hl) (fun h => kf h H locs ls hP hS hl)
theorem x_if_ne (C : xC p s m args meth c G A nL cc own Ts) {x : Int32} {off : Int} {tgt : Nat} (d : decode cc pc = .ok (.ifCond .ne off, 3)) (ht : (pc : Int) + off = (tgt : Int)) (kt : ¬ x = 0 → xJ p l e R s m args below meth c G A nL Q cells slots sh q μ ν lv st tgt) (kf : x = 0 → xJ p l e R s m args below meth c G A nL Q cells slots sh q μ ν lv st (pc + 3)) : xJ p l e R s m args below meth c G A nL Q cells slots sh q μ ν lv (.int x :: st) pc := fun H locs ls hP hS hl => lv_if_ne C.1 C.2.1 d ht (fun h => kt h H locs ls hP hS hl) (fun h => kf h H locs ls hP hS hl)
theorem x_icmp_ne (C : xC p s m args meth c G A nL cc own Ts) {x y : Int32} {off : Int} {tgt : Nat} (d : decode cc pc = .ok (.if_icmp .ne off, 3)) (ht : (pc : Int) + off = (tgt : Int)) (kt : ¬ x = y → xJ p l e R s m args below meth c G A nL Q cells slots sh q μ ν lv st tgt) (kf : x = y → xJ p l e R s m args below meth c G A nL Q cells slots sh q μ ν lv st (pc + 3)) : xJ p l e R s m args below meth c G A nL Q cells slots sh q μ ν lv (.int y :: .int x :: st) pc := fun H locs ls hP hS hl => lv_icmp_ne C.1 C.2.1 d ht (fun h => kt h H locs ls hP hS hl) (fun h => kf h H locs ls hP hS hl)
theorem x_if_lt (C : xC p s m args meth c G A nL cc own Ts) {x : Int32} {off : Int} {tgt : Nat} (d : decode cc pc = .ok (.ifCond .lt off, 3)) (ht : (pc : Int) + off = (tgt : Int)) (kt : x < 0 → xJ p l e R s m args below meth c G A nL Q cells slots sh q μ ν lv st tgt) (kf : ¬ x < 0 → xJ p l e R s m args below meth c G A nL Q cells slots sh q μ ν lv st (pc + 3)) : xJ p l e R s m args below meth c G A nL Q cells slots sh q μ ν lv (.int x :: st) pc := fun H locs ls hP hS hl => lv_if_lt C.1 C.2.1 d ht (fun h => kt h H locs ls hP hS hl) (fun h => kf h H locs ls hP hS hl)
theorem x_icmp_lt (C : xC p s m args meth c G A nL cc own Ts) {x y : Int32} {off : Int} {tgt : Nat} (d : decode cc pc = .ok (.if_icmp .lt off, 3)) (ht : (pc : Int) + off = (tgt : Int)) (kt : x < y → xJ p l e R s m args below meth c G A nL Q cells slots sh q μ ν lv st tgt) (kf : ¬ x < y → xJ p l e R s m args below meth c G A nL Q cells slots sh q μ ν lv st (pc + 3)) : xJ p l e R s m args below meth c G A nL Q cells slots sh q μ ν lv (.int y :: .int x :: st) pc := fun H locs ls hP hS hl => lv_icmp_lt C.1 C.2.1 d ht (fun h => kt h H locs ls hP hS hl) (fun h => kf h H locs ls hP hS hl)
theorem x_if_ge (C : xC p s m args meth c G A nL cc own Ts) {x : Int32} {off : Int} {tgt : Nat} (d : decode cc pc = .ok (.ifCond .ge off, 3)) (ht : (pc : Int) + off = (tgt : Int)) (kt : 0 ≤ x → xJ p l e R s m args below meth c G A nL Q cells slots sh q μ ν lv st tgt) (kf : ¬ 0 ≤ x → xJ p l e R s m args below meth c G A nL Q cells slots sh q μ ν lv st (pc + 3)) : xJ p l e R s m args below meth c G A nL Q cells slots sh q μ ν lv (.int x :: st) pc := fun H locs ls hP hS hl => lv_if_ge C.1 C.2.1 d ht (fun h => kt h H locs ls hP hS hl) (fun h => kf h H locs ls hP hS hl)
theorem x_icmp_ge (C : xC p s m args meth c G A nL cc own Ts) {x y : Int32} {off : Int} {tgt : Nat} (d : decode cc pc = .ok (.if_icmp .ge off, 3)) (ht : (pc : Int) + off = (tgt : Int)) (kt : y ≤ x → xJ p l e R s m args below meth c G A nL Q cells slots sh q μ ν lv st tgt) (kf : ¬ y ≤ x → xJ p l e R s m args below meth c G A nL Q cells slots sh q μ ν lv st (pc + 3)) : xJ p l e R s m args below meth c G A nL Q cells slots sh q μ ν lv (.int y :: .int x :: st) pc := fun H locs ls hP hS hl => lv_icmp_ge C.1 C.2.1 d ht (fun h => kt h H locs ls hP hS hl) (fun h => kf h H locs ls hP hS hl)
theorem x_if_gt (C : xC p s m args meth c G A nL cc own Ts) {x : Int32} {off : Int} {tgt : Nat} (d : decode cc pc = .ok (.ifCond .gt off, 3)) (ht : (pc : Int) + off = (tgt : Int)) (kt : 0 < x → xJ p l e R s m args below meth c G A nL Q cells slots sh q μ ν lv st tgt) (kf : ¬ 0 < x → xJ p l e R s m args below meth c G A nL Q cells slots sh q μ ν lv st (pc + 3)) : xJ p l e R s m args below meth c G A nL Q cells slots sh q μ ν lv (.int x :: st) pc := fun H locs ls hP hS hl => lv_if_gt C.1 C.2.1 d ht (fun h => kt h H locs ls hP hS hl) (fun h => kf h H locs ls hP hS hl)
theorem x_icmp_gt (C : xC p s m args meth c G A nL cc own Ts) {x y : Int32} {off : Int} {tgt : Nat} (d : decode cc pc = .ok (.if_icmp .gt off, 3)) (ht : (pc : Int) + off = (tgt : Int)) (kt : y < x → xJ p l e R s m args below meth c G A nL Q cells slots sh q μ ν lv st tgt) (kf : ¬ y < x → xJ p l e R s m args below meth c G A nL Q cells slots sh q μ ν lv st (pc + 3)) : xJ p l e R s m args below meth c G A nL Q cells slots sh q μ ν lv (.int y :: .int x :: st) pc := fun H locs ls hP hS hl => lv_icmp_gt C.1 C.2.1 d ht (fun h => kt h H locs ls hP hS hl) (fun h => kf h H locs ls hP hS hl)
theorem x_if_le (C : xC p s m args meth c G A nL cc own Ts) {x : Int32} {off : Int} {tgt : Nat} (d : decode cc pc = .ok (.ifCond .le off, 3)) (ht : (pc : Int) + off = (tgt : Int)) (kt : x ≤ 0 → xJ p l e R s m args below meth c G A nL Q cells slots sh q μ ν lv st tgt) (kf : ¬ x ≤ 0 → xJ p l e R s m args below meth c G A nL Q cells slots sh q μ ν lv st (pc + 3)) : xJ p l e R s m args below meth c G A nL Q cells slots sh q μ ν lv (.int x :: st) pc := fun H locs ls hP hS hl => lv_if_le C.1 C.2.1 d ht (fun h => kt h H locs ls hP hS hl) (fun h => kf h H locs ls hP hS hl)
theorem x_icmp_le (C : xC p s m args meth c G A nL cc own Ts) {x y : Int32} {off : Int} {tgt : Nat} (d : decode cc pc = .ok (.if_icmp .le off, 3)) (ht : (pc : Int) + off = (tgt : Int)) (kt : x ≤ y → xJ p l e R s m args below meth c G A nL Q cells slots sh q μ ν lv st tgt) (kf : ¬ x ≤ y → xJ p l e R s m args below meth c G A nL Q cells slots sh q μ ν lv st (pc + 3)) : xJ p l e R s m args below meth c G A nL Q cells slots sh q μ ν lv (.int y :: .int x :: st) pc := fun H locs ls hP hS hl => lv_icmp_le C.1 C.2.1 d ht (fun h => kt h H locs ls hP hS hl) (fun h => kf h H locs ls hP hS hl)
/-! reading and writing fields and rows -/
theorem x_get (C : xC p s m args meth c G A nL cc own Ts) {CN : String} {T : u_T} {N ci index : Nat} {fs : List gF} {d : gF} {v : Value} (hin : ∀ w ∈ u_ws CN T N, w ∈ Ts) (k : Nat) (hs : sh[k]? = some (.inr (.inl (ci, fs)))) (hc : vwCl[ci]? = some (CN, T, N)) (i : Nat) (hi : i < N) (hlink : Cond.fieldLink own index (T i).1 (T i).2.1 (T i).2.2.1 ∈ Ts) (hd : fs[i]? = some d) (hv : g_fld q (μ k) (ν k) i d = v) (hdg : decode cc pc = .ok (.getfield index, 3)) (K : xJ p l e R s m args below meth c G A nL Q cells slots sh q μ ν lv (v :: st) (pc + 3)) : xJ p l e R s m args below meth c G A nL Q cells slots sh q μ ν lv (.ref (q k) :: st) pc := by
  intro H locs ls hP hS hl
  refine va_get (D := G.1) (cl := vwCl) (tys := gT G) (ci := ci) (fs := g_flds q (μ k) (ν k) 0 fs) (v := v) (C := CN) (T := T) (N := N) C.1 C.2.1 C.2.2.2.2.2.1 hin C.2.2.2.2.1 C.2.2.2.2.2.2.1 hP k (wd_at hs) hc i hi (C.2.2.2.2.2.1 _ hlink) (fun _ h => h) ?_ hdg (K H locs ls hP hS hl)
  rw [g_flds_get, hd, Option.map_some, Nat.zero_add, hv]
theorem x_puti (C : xC p s m args meth c G A nL cc own Ts) (hq : gD A q sh.length) {CN : String} {T : u_T} {N ci index : Nat} {fs : List gF} {x : Int32} {ty : FieldType} (ty0 : Nat → FieldType) (hty : ∀ k, k < N → parseFieldDescriptor (T k).2.2.1 = some (ty0 k)) (hnm : ∀ a, a < N → ∀ b, b < N → a ≠ b → (T a).2.1 ≠ (T b).2.1) (hin : ∀ w ∈ u_ws CN T N, w ∈ Ts) (k : Nat) (hs : sh[k]? = some (.inr (.inl (ci, fs)))) (hc : vwCl[ci]? = some (CN, T, N)) (i : Nat) (hi : i < N) (hlink : Cond.fieldLink own index (T i).1 (T i).2.1 (T i).2.2.1 ∈ Ts) (hfin : (T i).2.2.2 = false) (hd : parseFieldDescriptor (T i).2.2.1 = some ty) (hn : narrow ty (.int x) = .int x) (hfit : fits ty (.int x) = true) (hd2 : fs[i]? = some (.inr (some false))) (hμ : μ' = g_set μ k (upd (μ k) i x)) (hdg : decode cc pc = .ok (.putfield index, 3)) (K : xJ p l e R s m args below meth c G A nL Q cells slots sh q μ' ν lv st (pc + 3)) : xJ p l e R s m args below meth c G A nL Q cells slots sh q μ ν lv (.int x :: .ref (q k) :: st) pc := by
  intro H locs ls hP hS hl
  refine va_put (D := G.1) (cl := vwCl) (tys := gT G) (ci := ci) (fs := g_flds q (μ k) (ν k) 0 fs) (v := .int x) (ty := ty) (C := CN) (T := T) (N := N) C.1 C.2.1 C.2.2.2.2.2.1 hin ty0 hty hnm C.2.2.2.2.1 C.2.2.2.2.2.2.1 hP (gD_wd hq G μ ν) hS k (wd_at hs) hc i hi (C.2.2.2.2.2.1 _ hlink) (fun _ h => h) hfin hd hn hfit (by rw [g_flds_len]; exact g_lt hd2) hdg (fun H1 locs1 hP1 _ hS1 => K H1 locs1 ls ?_ hS1 hl)
  rw [g_flds_set q (μ k) (ν k) x fs 0 i hd2, Nat.zero_add] at hP1
  have e : g_cell G q μ' ν k (.inr (.inl (ci, fs))) = .inr (ci, g_flds q (upd (μ k) i x) (ν k) 0 fs) := by
    rw [hμ]; unfold g_cell; rw [g_set_s]
  rw [← e, wd_set hs (μ' := μ') (ν' := ν) (fun j hj => ⟨by rw [hμ]; exact g_set_n hj, rfl⟩)] at hP1
  exact hP1
theorem x_putl (C : xC p s m args meth c G A nL cc own Ts) (hq : gD A q sh.length) {CN : String} {T : u_T} {N ci index : Nat} {fs : List gF} {x : Int64} (ty0 : Nat → FieldType) (hty : ∀ k, k < N → parseFieldDescriptor (T k).2.2.1 = some (ty0 k)) (hnm : ∀ a, a < N → ∀ b, b < N → a ≠ b → (T a).2.1 ≠ (T b).2.1) (hin : ∀ w ∈ u_ws CN T N, w ∈ Ts) (k : Nat) (hs : sh[k]? = some (.inr (.inl (ci, fs)))) (hc : vwCl[ci]? = some (CN, T, N)) (i : Nat) (hi : i < N) (hlink : Cond.fieldLink own index (T i).1 (T i).2.1 (T i).2.2.1 ∈ Ts) (hfin : (T i).2.2.2 = false) (hd : parseFieldDescriptor (T i).2.2.1 = some .long) (hd2 : fs[i]? = some (.inr (some true))) (hν : ν' = g_setN ν k (vp_updL (ν k) i x)) (hdg : decode cc pc = .ok (.putfield index, 3)) (K : xJ p l e R s m args below meth c G A nL Q cells slots sh q μ ν' lv st (pc + 3)) : xJ p l e R s m args below meth c G A nL Q cells slots sh q μ ν lv (.long x :: .ref (q k) :: st) pc := by
  intro H locs ls hP hS hl
  refine va_put (D := G.1) (cl := vwCl) (tys := gT G) (ci := ci) (fs := g_flds q (μ k) (ν k) 0 fs) (v := .long x) (ty := .long) (C := CN) (T := T) (N := N) C.1 C.2.1 C.2.2.2.2.2.1 hin ty0 hty hnm C.2.2.2.2.1 C.2.2.2.2.2.2.1 hP (gD_wd hq G μ ν) hS k (wd_at hs) hc i hi (C.2.2.2.2.2.1 _ hlink) (fun _ h => h) hfin hd rfl rfl (by rw [g_flds_len]; exact g_lt hd2) hdg (fun H1 locs1 hP1 _ hS1 => K H1 locs1 ls ?_ hS1 hl)
  rw [g_flds_setN q (μ k) (ν k) x fs 0 i hd2, Nat.zero_add] at hP1
  have e : g_cell G q μ ν' k (.inr (.inl (ci, fs))) = .inr (ci, g_flds q (μ k) (vp_updL (ν k) i x) 0 fs) := by
    rw [hν]; unfold g_cell; rw [g_setN_s]
  rw [← e, wd_set hs (μ' := μ) (ν' := ν') (fun j hj => ⟨rfl, by rw [hν]; exact g_setN_n hj⟩)] at hP1
  exact hP1
theorem x_iald (C : xC p s m args meth c G A nL cc own Ts) (k : Nat) {n : Nat} {i v : Int32} (hs : sh[k]? = some (.inl n)) (hin : vp_in i n) (hv : μ k i.toNatClampNeg = v) (hdg : decode cc pc = .ok (.iaload, 1)) (K : xJ p l e R s m args below meth c G A nL Q cells slots sh q μ ν lv (.int v :: st) (pc + 1)) : xJ p l e R s m args below meth c G A nL Q cells slots sh q μ ν lv (.int i :: .ref (q k) :: st) pc := by
  intro H locs ls hP hS hl
  subst hv
  exact va_iald (D := G.1) (cl := vwCl) (tys := gT G) C.1 C.2.1 C.2.2.2.2.2.2.1 hP k 0 (wd_at hs) rfl hin hdg (K H locs ls hP hS hl)
theorem x_iast (C : xC p s m args meth c G A nL cc own Ts) (hq : gD A q sh.length) (k : Nat) {n : Nat} {i x : Int32} (hs : sh[k]? = some (.inl n)) (hin : vp_in i n) (hμ : μ' = g_set μ k (upd (μ k) i.toNatClampNeg x)) (hdg : decode cc pc = .ok (.iastore, 1)) (K : xJ p l e R s m args below meth c G A nL Q cells slots sh q μ' ν lv st (pc + 1)) : xJ p l e R s m args below meth c G A nL Q cells slots sh q μ ν lv (.int x :: .int i :: .ref (q k) :: st) pc := by
  intro H locs ls hP hS hl
  refine va_iast (D := G.1) (cl := vwCl) (tys := gT G) C.1 C.2.1 C.2.2.2.2.2.2.1 hP (gD_wd hq G μ ν) hS k 0 (wd_at hs) rfl hin hdg (fun H1 locs1 hP1 _ hS1 => K H1 locs1 ls ?_ hS1 hl)
  have e : g_cell G q μ' ν k (.inl n) = .inl (G.2.1, n, .inl (upd (μ k) i.toNatClampNeg x)) := by
    rw [hμ]; unfold g_cell; rw [g_set_s]
  rw [← e, wd_set hs (μ' := μ') (ν' := ν) (fun j hj => ⟨by rw [hμ]; exact g_set_n hj, rfl⟩)] at hP1
  exact hP1
theorem x_alen (C : xC p s m args meth c G A nL cc own Ts) (k : Nat) {n : Nat} {v : Int32} (hs : sh[k]? = some (.inl n)) (hv : Int32.ofNat n = v) (hdg : decode cc pc = .ok (.arraylength, 1)) (K : xJ p l e R s m args below meth c G A nL Q cells slots sh q μ ν lv (.int v :: st) (pc + 1)) : xJ p l e R s m args below meth c G A nL Q cells slots sh q μ ν lv (.ref (q k) :: st) pc := by
  intro H locs ls hP hS hl
  exact va_alen (D := G.1) (cl := vwCl) (tys := gT G) C.1 C.2.1 C.2.2.2.2.2.2.1 hP k 0 (wd_at hs) (ty := .int) rfl hv hdg (K H locs ls hP hS hl)
/-! contracts -/
def gPc (G : gG) (sh : List gC) (q : Nat → Nat) (μ : gM) (ν : gN) (sz : Nat) (av : List Value) : Array Value → State → Prop := va_Pc av (fun U => U.heap.size = sz ∧ va_P G.1 vwCl (wd G q μ ν 0 sh) U.heap ∧ gK G U ∧ ∀ i j, i < sh.length → j < sh.length → q i = q j → i = j)
def gB (G : gG) (sh : List gC) (q : Nat → Nat) (μ : gM) (ν : gN) : Unit → State → Prop := fun _ t => va_P G.1 vwCl (wd G q μ ν 0 sh) t.heap
def gQi (G : gG) (sh : List gC) (q : Nat → Nat) (μ' : gM) (ν' : gN) (sz : Nat) (r : Int32) : Array Value → State → Outcome → State → Prop := va_Qi (fun r' (_ : Unit) => r' = r) (gB G sh q μ' ν') (gA q sh.length sz)
def gQl (G : gG) (sh : List gC) (q : Nat → Nat) (μ' : gM) (ν' : gN) (sz : Nat) (r : Int64) : Array Value → State → Outcome → State → Prop := va_Ql (fun r' (_ : Unit) => r' = r) (gB G sh q μ' ν') (gA q sh.length sz)
def gQd (G : gG) (sh : List gC) (q : Nat → Nat) (μ' : gM) (ν' : gN) (sz : Nat) (r : UInt64) : Array Value → State → Outcome → State → Prop := va_Qd (fun r' (_ : Unit) => r' = r) (gB G sh q μ' ν') (gA q sh.length sz)
def gQv (G : gG) (sh : List gC) (q : Nat → Nat) (μ' : gM) (ν' : gN) (sz : Nat) : Array Value → State → Outcome → State → Prop := va_Qv (fun (_ : Unit) => True) (gB G sh q μ' ν') (gA q sh.length sz)
def gMi (l : Launch) (y : MethodName) (ws : List Cond) (rm : Room) (G : gG) (sh : List gC) (q : Nat → Nat) (μ : gM) (ν : gN) (av : List Value) (μ' : gM) (ν' : gN) (r : Int32) : Prop := ∀ sz : Nat, Met l y ws rm (gPc G sh q μ ν sz av) (gQi G sh q μ' ν' sz r) 0 0 (gA q sh.length sz)
def gMl (l : Launch) (y : MethodName) (ws : List Cond) (rm : Room) (G : gG) (sh : List gC) (q : Nat → Nat) (μ : gM) (ν : gN) (av : List Value) (μ' : gM) (ν' : gN) (r : Int64) : Prop := ∀ sz : Nat, Met l y ws rm (gPc G sh q μ ν sz av) (gQl G sh q μ' ν' sz r) 0 0 (gA q sh.length sz)
def gMd (l : Launch) (y : MethodName) (ws : List Cond) (rm : Room) (G : gG) (sh : List gC) (q : Nat → Nat) (μ : gM) (ν : gN) (av : List Value) (μ' : gM) (ν' : gN) (r : UInt64) : Prop := ∀ sz : Nat, Met l y ws rm (gPc G sh q μ ν sz av) (gQd G sh q μ' ν' sz r) 0 0 (gA q sh.length sz)
def gMv (l : Launch) (y : MethodName) (ws : List Cond) (rm : Room) (G : gG) (sh : List gC) (q : Nat → Nat) (μ : gM) (ν : gN) (av : List Value) (μ' : gM) (ν' : gN) : Prop := ∀ sz : Nat, Met l y ws rm (gPc G sh q μ ν sz av) (gQv G sh q μ' ν' sz) 0 0 (gA q sh.length sz)
theorem gK_moved {G : gG} {u U : State} (hvm : u.vm.Alike U.vm) (h : gK G u) : gK G U := va_K.moved hvm h
theorem g_iret (C : xC p s m args meth c G (gA q sh.length s.heap.size) nL cc own Ts) {r v : Int32} {rt : FieldType} (hr : meth.sig.returnType = some rt) (hn : narrow rt (.int v) = .int v) (hdg : decode cc pc = .ok (.ireturn, 1)) (h1 : v = r) (h2 : μ = μ') (h3 : ν = ν') : xJ p l e R s m args below meth c G (gA q sh.length s.heap.size) nL (MQ below (gQi G sh q μ' ν' s.heap.size r) args s 0 0 (gA q sh.length s.heap.size)) 0 0 sh q μ ν lv [.int v] pc := by
  intro H locs ls hP hS hl
  subst h1; subst h2; subst h3
  exact W.zret (v := v) C.1 C.2.1 hr hn (fun t ht hW => ⟨⟨v, (), rfl, rfl, by show va_P _ _ _ t.heap; rw [ht]; exact hP⟩, hS.F ht⟩) hS.2.2 hdg C.2.2.1
theorem g_lret (C : xC p s m args meth c G (gA q sh.length s.heap.size) nL cc own Ts) {r v : Int64} (hr : meth.sig.returnType = some .long) (hdg : decode cc pc = .ok (.lreturn, 1)) (h1 : v = r) (h2 : μ = μ') (h3 : ν = ν') : xJ p l e R s m args below meth c G (gA q sh.length s.heap.size) nL (MQ below (gQl G sh q μ' ν' s.heap.size r) args s 0 0 (gA q sh.length s.heap.size)) 0 0 sh q μ ν lv [.long v] pc := by
  intro H locs ls hP hS hl
  subst h1; subst h2; subst h3
  exact W.lret (v := v) C.1 C.2.1 hr (fun t ht hW => ⟨⟨v, (), rfl, rfl, by show va_P _ _ _ t.heap; rw [ht]; exact hP⟩, hS.F ht⟩) hS.2.2 hdg C.2.2.1
theorem g_dret (C : xC p s m args meth c G (gA q sh.length s.heap.size) nL cc own Ts) {r v : UInt64} (hr : meth.sig.returnType = some .double) (hdg : decode cc pc = .ok (.dreturn, 1)) (h1 : v = r) (h2 : μ = μ') (h3 : ν = ν') : xJ p l e R s m args below meth c G (gA q sh.length s.heap.size) nL (MQ below (gQd G sh q μ' ν' s.heap.size r) args s 0 0 (gA q sh.length s.heap.size)) 0 0 sh q μ ν lv [.double v] pc := by
  intro H locs ls hP hS hl
  subst h1; subst h2; subst h3
  exact W.dret (v := v) C.1 C.2.1 hr (fun t ht hW => ⟨⟨v, (), rfl, rfl, by show va_P _ _ _ t.heap; rw [ht]; exact hP⟩, hS.F ht⟩) hS.2.2 hdg C.2.2.1
theorem g_vret (C : xC p s m args meth c G (gA q sh.length s.heap.size) nL cc own Ts) (hr : meth.sig.returnType = none) (hdg : decode cc pc = .ok (.return_, 1)) (h2 : μ = μ') (h3 : ν = ν') : xJ p l e R s m args below meth c G (gA q sh.length s.heap.size) nL (MQ below (gQv G sh q μ' ν' s.heap.size) args s 0 0 (gA q sh.length s.heap.size)) 0 0 sh q μ ν lv [] pc := by
  intro H locs ls hP hS hl
  subst h2; subst h3
  exact W.vret C.1 C.2.1 hr (fun t ht hW => ⟨⟨(), rfl, trivial, by show va_P _ _ _ t.heap; rw [ht]; exact hP⟩, hS.F ht⟩) hS.2.2 hdg C.2.2.1
end XJ
/-- the head of every method -/
theorem g_met {l : Launch} {y : MethodName} {ws ws' : List Cond} {rm : Room} {G : gG} {sh : List gC} {q : Nat → Nat} {μ : gM} {ν : gN} {av : List Value} {sz : Nat} {Qc : Nat → Array Value → State → Outcome → State → Prop} {cc : ByteArray} {maxL : Nat} {ret : Option FieldType} {own : String} (hy : plainName y.cls = true) (ho : y.cls = own) (hw : ws = Cond.code y cc maxL ret :: ws') (hlen : (lg_sl av).length ≤ maxL)
    (body : ∀ (p : Program) (e : Env) (s : State) (m : MethodId) (below : List Frame) (meth : Method) (c : Code), xC p s m av.toArray meth c G (gA q sh.length s.heap.size) maxL cc own ws → gD (gA q sh.length s.heap.size) q sh.length → meth.sig.returnType = ret → xJ p l e rm s m av.toArray below meth c G (gA q sh.length s.heap.size) maxL (MQ below (Qc s.heap.size) av.toArray s 0 0 (gA q sh.length s.heap.size)) 0 0 sh q μ ν (lv_args 0 av) [] 0) :
    Met l y ws rm (gPc G sh q μ ν sz av) (Qc sz) 0 0 (gA q sh.length sz) := by
  refine Met.ofW (cc := cc) (maxL := maxL) (ret := ret) hy hw ?_
  intro p e s m args below meth c s₁ B hml hv
  obtain ⟨rfl, rfl, hP, hK, hD⟩ := hv
  have hts := atoms_spec (ws := ws) B.pre
  have hA : ∀ a : Nat, s.heap.size ≤ a → gA q sh.length s.heap.size a := fun a h => Or.inr h
  have C : xC p s m av.toArray meth c G (gA q sh.length s.heap.size) maxL cc own ws := ⟨B.exec, B.bytes, B.notSynchronized, hml, ho ▸ findClass_of_methodNamed B.named, hts, hK, hA⟩
  have hq : gD (gA q sh.length s.heap.size) q sh.length := ⟨hD, fun k hk => Or.inl ⟨k, hk, rfl⟩⟩
  have hl := lv_entry av (n := maxL) hlen
  rw [lg_entry_eq]
  exact body p e s m below meth c C hq B.returns s.heap [] _ hP va_S.rf hl
/-! calls: how a callee's picture lies in the caller's -/
def gFr (G : gG) (sh : List gC) (q : Nat → Nat) (μ : gM) (ν : gN) (shc : List gC) (qc : Nat → Nat) (μc : gM) (νc : gN) (μr : gM) (νr : gN) (μ' : gM) (ν' : gN) : Prop :=
  (∀ H, va_P G.1 vwCl (wd G q μ ν 0 sh) H → va_P G.1 vwCl (wd G qc μc νc 0 shc) H) ∧
  ((∀ i j, i < sh.length → j < sh.length → q i = q j → i = j) → (∀ i j, i < shc.length → j < shc.length → qc i = qc j → i = j)) ∧
  (∀ k, k < shc.length → ∃ k', k' < sh.length ∧ qc k = q k') ∧
  ∀ H H1 : Heap, (∀ i j, i < sh.length → j < sh.length → q i = q j → i = j) → va_P G.1 vwCl (wd G q μ ν 0 sh) H → va_P G.1 vwCl (wd G qc μr νr 0 shc) H1 → (∀ a : Nat, a < H.size → ¬ gA qc shc.length H.size a → H1[a]? = H[a]?) → va_P G.1 vwCl (wd G q μ' ν' 0 sh) H1
theorem gFr_same {G : gG} {sh : List gC} {q : Nat → Nat} {μ μ' : gM} {ν ν' : gN} : gFr G sh q μ ν sh q μ ν μ' ν' μ' ν' :=
  ⟨fun _ h => h, fun h => h, fun k hk => ⟨k, hk, rfl⟩, fun _ _ _ _ h _ => h⟩
def g_sel {α : Type} (es : List Nat) (f : Nat → α) : Nat → α := fun k => f (es.getD k 0)
def g_rnf (es : List Nat) (d : gF) : gF := match d with
  | .inl j => .inl (es.getD j 0)
  | .inr b => .inr b
def g_ren (es : List Nat) (d : gC) : gC := match d with
  | .inl n => .inl n
  | .inr (.inl o) => .inr (.inl (o.1, o.2.map (g_rnf es)))
  | .inr (.inr (.inl ids)) => .inr (.inr (.inl (ids.map (Option.map (fun j => es.getD j 0)))))
  | .inr (.inr (.inr n)) => .inr (.inr (.inr n))
def g_ix : Nat → List Nat → Nat → Option Nat
  | _, [], _ => none
  | b, e :: es, k => if k = e then some b else g_ix (b + 1) es k
def g_mrg {α : Type} (es : List Nat) (f g : Nat → α) : Nat → α := fun k => match g_ix 0 es k with
  | some j => g j
  | none => f k
theorem g_ix_none : ∀ (es : List Nat) (b k : Nat), k ∉ es → g_ix b es k = none := by
  intro es
  induction es with
  | nil => intro b k _; rfl
  | cons e es ih =>
    intro b k h
    have h1 : k ≠ e := fun q => h (q ▸ List.mem_cons_self)
    have h2 : k ∉ es := fun q => h (List.mem_cons_of_mem _ q)
    simp only [g_ix, if_neg h1, ih (b + 1) k h2]
theorem g_ix_some : ∀ (es : List Nat) (b j k : Nat), es.Nodup → es[j]? = some k → g_ix b es k = some (b + j) := by
  intro es
  induction es with
  | nil => intro b j k _ h; simp at h
  | cons e es ih =>
    intro b j k hn h
    rw [List.nodup_cons] at hn
    cases j with
    | zero =>
      simp only [List.getElem?_cons_zero, Option.some.injEq] at h
      simp only [g_ix, if_pos h.symm, Nat.add_zero]
    | succ j =>
      simp only [List.getElem?_cons_succ] at h
      have h1 : k ≠ e := fun q => hn.1 (q ▸ List.mem_of_getElem? h)
      simp only [g_ix, if_neg h1]
      rw [ih (b + 1) j k hn.2 h, show b + 1 + j = b + (j + 1) from by omega]
theorem g_mrg_in {α : Type} {es : List Nat} {f g : Nat → α} {j k : Nat} (hn : es.Nodup) (h : es[j]? = some k) : g_mrg es f g k = g j := by
  unfold g_mrg; rw [g_ix_some es 0 j k hn h, Nat.zero_add]
theorem g_mrg_out {α : Type} {es : List Nat} {f g : Nat → α} {k : Nat} (h : k ∉ es) : g_mrg es f g k = f k := by
  unfold g_mrg; rw [g_ix_none es 0 k h]
theorem g_mrg_id {α : Type} {es : List Nat} {f : Nat → α} (hn : es.Nodup) : g_mrg es f (g_sel es f) = f := by
  funext k
  by_cases h : k ∈ es
  · obtain ⟨j, hj⟩ := List.getElem?_of_mem h
    rw [g_mrg_in hn hj]
    simp [g_sel, List.getD, hj]
  · exact g_mrg_out h
def gSub (sh shc : List gC) (es : List Nat) : Prop := es.Nodup ∧ es.map (fun k => sh[k]?) = shc.map (fun d => some (g_ren es d))
theorem g_flds_ren {es : List Nat} {q : Nat → Nat} {f : Nat → Int32} {h : Nat → Int64} : ∀ (fs : List gF) (b : Nat), g_flds (g_sel es q) f h b fs = g_flds q f h b (fs.map (g_rnf es)) := by
  intro fs
  induction fs with
  | nil => intro b; rfl
  | cons d fs ih =>
    intro b
    simp only [List.map_cons, g_flds, ih (b + 1)]
    congr 1
    rcases d with j | (_ | (_ | _)) <;> rfl
theorem g_cell_ren {G : gG} {es : List Nat} {q : Nat → Nat} {μ μr : gM} {ν νr : gN} {k e : Nat} (d : gC) (h1 : μr k = μ e) (h2 : νr k = ν e) : g_cell G (g_sel es q) μr νr k d = g_cell G q μ ν e (g_ren es d) := by
  rcases d with n | (o | (ids | n))
  · simp only [g_ren, g_cell, h1]
  · simp only [g_ren, g_cell, h1, h2, g_flds_ren]
  · simp only [g_ren, g_cell, List.length_map]
    congr 7
    funext i
    simp only [List.getD, List.getElem?_map]
    cases ids[i]? with
    | none => rfl
    | some x => cases x <;> rfl
  · simp only [g_ren, g_cell, h2]
theorem gSub_at {sh shc : List gC} {es : List Nat} (h : gSub sh shc es) {k : Nat} {d : gC} (hd : shc[k]? = some d) : ∃ e, es[k]? = some e ∧ sh[e]? = some (g_ren es d) := by
  have h1 : (es.map (fun k => sh[k]?))[k]? = some (some (g_ren es d)) := by rw [h.2, List.getElem?_map, hd]; rfl
  rw [List.getElem?_map] at h1
  cases he : es[k]? with
  | none => rw [he] at h1; cases h1
  | some e => rw [he] at h1; exact ⟨e, rfl, Option.some.inj h1⟩
theorem gSub_len {sh shc : List gC} {es : List Nat} (h : gSub sh shc es) : es.length = shc.length := by
  have := congrArg List.length h.2
  simpa using this
theorem gFr_sub {G : gG} {sh shc : List gC} {q : Nat → Nat} {μ μr : gM} {ν νr : gN} {es : List Nat} (h : gSub sh shc es) : gFr G sh q μ ν shc (g_sel es q) (g_sel es μ) (g_sel es ν) μr νr (g_mrg es μ μr) (g_mrg es ν νr) := by
  have hat : ∀ k, k < shc.length → ∃ e d, es[k]? = some e ∧ shc[k]? = some d ∧ sh[e]? = some (g_ren es d) := fun k hk => by
    obtain ⟨e, h1, h2⟩ := gSub_at h (List.getElem?_eq_getElem hk)
    exact ⟨e, _, h1, List.getElem?_eq_getElem hk, h2⟩
  have hget : ∀ {k e : Nat}, es[k]? = some e → es.getD k 0 = e := fun he => by simp [List.getD, he]
  refine ⟨fun H hP => ?_, fun hi i j hii hjj hxy => ?_, fun k hk => ?_, fun H H1 hi hP hP1 hk => ?_⟩
  · intro k z hz
    obtain ⟨d, hd, rfl⟩ := wd_of hz
    obtain ⟨e, h1, h2⟩ := gSub_at h hd
    have h3 := hP e _ (wd_at h2)
    rw [g_cell_ren (μ := μ) (ν := ν) (e := e) d (by show μ (es.getD k 0) = μ e; rw [hget h1]) (by show ν (es.getD k 0) = ν e; rw [hget h1]), show g_sel es q k = q e from congrArg q (hget h1)]
    exact h3
  · obtain ⟨e1, d1, a1, b1, c1⟩ := hat i hii
    obtain ⟨e2, d2, a2, b2, c2⟩ := hat j hjj
    have h4 : q e1 = q e2 := by
      have h5 : q (es.getD i 0) = q (es.getD j 0) := hxy
      rw [hget a1, hget a2] at h5
      exact h5
    have h6 := hi e1 e2 (g_lt c1) (g_lt c2) h4
    subst h6
    exact (List.getElem?_inj (g_lt a1) h.1).mp (a1.trans a2.symm)
  · obtain ⟨e, d, a, b, c⟩ := hat k hk
    exact ⟨e, g_lt c, by show q (es.getD k 0) = q e; rw [hget a]⟩
  · intro k z hz
    obtain ⟨d, hd, rfl⟩ := wd_of hz
    by_cases hmem : k ∈ es
    · obtain ⟨j, hj⟩ := List.getElem?_of_mem hmem
      have hjl : j < shc.length := by rw [← gSub_len h]; exact g_lt hj
      obtain ⟨e, d', a, b, c⟩ := hat j hjl
      have he : e = k := Option.some.inj (a.symm.trans hj)
      subst he
      have hdd : d = g_ren es d' := Option.some.inj (hd.symm.trans c)
      subst hdd
      have h3 := hP1 j _ (wd_at b)
      rw [g_cell_ren (μ := g_mrg es μ μr) (ν := g_mrg es ν νr) (e := e) d' (g_mrg_in h.1 a).symm (g_mrg_in h.1 a).symm, show g_sel es q j = q e from congrArg q (hget a)] at h3
      exact h3
    · have h3 := hP k _ (wd_at hd)
      have hlt : q k < H.size := h3.lt
      rw [g_cell_cong (μ := μ) (ν := ν) (g_mrg_out hmem) (g_mrg_out hmem)]
      refine h3.kept (hk (q k) hlt ?_)
      rintro (⟨j, hj, hqj⟩ | hge)
      · obtain ⟨e, d', a, b, c⟩ := hat j hj
        have h5 : q k = q e := by
          have h6 : q k = q (es.getD j 0) := hqj
          rw [hget a] at h6; exact h6
        have h7 := hi k e (g_lt hd) (g_lt c) h5
        subst h7
        exact hmem (List.mem_of_getElem? a)
      · omega
/-- a callee that changes nothing -/
theorem gFr_pure {G : gG} {sh shc : List gC} {q : Nat → Nat} {μ : gM} {ν : gN} {es : List Nat} (h : gSub sh shc es) : gFr G sh q μ ν shc (g_sel es q) (g_sel es μ) (g_sel es ν) (g_sel es μ) (g_sel es ν) μ ν := by
  have := gFr_sub (G := G) (q := q) (μ := μ) (ν := ν) (μr := g_sel es μ) (νr := g_sel es ν) h
  rw [g_mrg_id h.1, g_mrg_id h.1] at this
  exact this
theorem g_blind {G : gG} {sh : List gC} {q : Nat → Nat} {μ : gM} {ν : gN} {sz : Nat} {av : List Value} : FrameBlind (gPc G sh q μ ν sz av) := fun a U g mk h => by
  obtain ⟨q0, q1, qP, qK, qD⟩ := h
  exact ⟨q0, q1, qP, va_K.moved (u := U) (U := U.calling g mk a) (Vm.Alike.refl U.vm) qK, qD⟩
section XK
variable {p : Program} {l : Launch} {e : Env} {R : Room} {s : State} {m : MethodId} {args : Array Value} {below : List Frame} {meth : Method} {c : Code} {G : gG} {A : Nat → Prop} {nL : Nat} {Q : State → Prop} {cells slots : Nat} {sh shc : List gC} {q qc : Nat → Nat} {μ μc μr μ' : gM} {ν νc νr ν' : gN} {lv lv' : List (Nat × Value)} {st st' : List Value} {pc : Nat}
variable {cc : ByteArray} {own : String} {Ts : List Cond}
theorem g_preS (C : xC p s m args meth c G A nL cc own Ts) (hq : gD A q sh.length) (hF : gFr G sh q μ ν shc qc μc νc μr νr μ' ν') {H : Heap} (hP : va_P G.1 vwCl (wd G q μ ν 0 sh) H) (av : List Value) : PreS s H (gPc G shc qc μc νc H.size av) av :=
  ⟨g_blind, fun U hU hW => ⟨rfl, by rw [hU], by rw [hU]; exact hF.1 H hP, va_K.moved hW.alike C.2.2.2.2.2.2.1, hF.2.1 hq.1⟩⟩
theorem g_preV (C : xC p s m args meth c G A nL cc own Ts) (hq : gD A q sh.length) (hF : gFr G sh q μ ν shc qc μc νc μr νr μ' ν') {H : Heap} (hP : va_P G.1 vwCl (wd G q μ ν 0 sh) H) {ci : Nat} {fs : List gF} {CN : String} {T : u_T} {N : Nat} (hs : shc[0]? = some (.inr (.inl (ci, fs)))) (hc : vwCl[ci]? = some (CN, T, N)) (as : List Value) : PreV s H CN (qc 0) (gPc G shc qc μc νc H.size (.ref (qc 0) :: as)) as :=
  ⟨g_blind, va_recv C.2.2.2.2.2.2.1 (hF.1 H hP) (ci := ci) (q0 := 0) hc (wd_at hs), fun U hU hW => ⟨rfl, by rw [hU], by rw [hU]; exact hF.1 H hP, va_K.moved hW.alike C.2.2.2.2.2.2.1, hF.2.1 hq.1⟩⟩
theorem g_frA (C : xC p s m args meth c G A nL cc own Ts) (hq : gD A q sh.length) (hF : gFr G sh q μ ν shc qc μc νc μr νr μ' ν') {H : Heap} {locs : List Loc} (hS : va_S A s.heap H locs) : ∀ a, gA qc shc.length H.size a → A a := by
  rintro a (⟨k, hk, rfl⟩ | h)
  · obtain ⟨k', h1, h2⟩ := hF.2.2.1 k hk
    rw [h2]; exact hq.2 k' h1
  · exact C.2.2.2.2.2.2.2 a (Nat.le_trans hS.1 h)
variable {y : MethodName} {wsy : List Cond} {rm : Room} {index n maxL : Nat} {bytes : ByteArray} {ret : Option FieldType}
theorem x_callSi (C : xC p s m args meth c G A nL cc own Ts) (hq : gD A q sh.length) {av : List Value} {r : Int32} (hF : gFr G sh q μ ν shc qc μc νc μr νr μ' ν') (hM : gMi l y wsy rm G shc qc μc νc av μr νr r) (cw : CallB R s args own index y bytes maxL ret wsy rm 0 0 n ∧ (Cond.static y).before args s = true) (hn : av.length = n) (hst : st = av.reverse ++ st') (hsum : (st'.map fun v => v.category).sum ≤ 8) (hdg : decode cc pc = .ok (.invokestatic index, 3)) (hc : cells ≤ R.cells) (hs : slots ≤ R.slots) (K : xJ p l e R s m args below meth c G A nL Q cells slots sh q μ' ν' lv (.int r :: st') (pc + 3)) : xJ p l e R s m args below meth c G A nL Q cells slots sh q μ ν lv st pc := by
  intro H locs ls hP hS hl
  subst hst
  exact va_calli (va_runS (As := av) (rest := st') ⟨C.1, C.2.1, C.2.2.2.1, C.2.2.2.2.1, C.2.2.2.2.2.1⟩ (hM H.size) cw (g_preS C hq hF hP av) rfl hn hl.1 rfl (lv_room hsum) hdg ⟨hc, hs⟩) hS (fun a _ h => g_frA C hq hF hS a h) (g_frA C hq hF hS) (fun r' u t H1 locs1 ht hvm hw hB hz hk hS1 => by
    have hw : r' = r := hw
    subst hw
    have hB : va_P G.1 vwCl (wd G qc μr νr 0 shc) t.heap := hB
    rw [ht] at hB
    exact K H1 locs1 ls (hF.2.2.2 H H1 hq.1 hP hB hk) hS1 hl)
theorem x_callVi (C : xC p s m args meth c G A nL cc own Ts) (hq : gD A q sh.length) {as : List Value} {ci : Nat} {fs : List gF} {CN : String} {T : u_T} {N : Nat} {r : Int32} (hF : gFr G sh q μ ν shc qc μc νc μr νr μ' ν') (hM : gMi l y wsy rm G shc qc μc νc (.ref (qc 0) :: as) μr νr r) (cw : CallW R s args own CN index y bytes maxL ret wsy rm 0 0 n) (hsc : shc[0]? = some (.inr (.inl (ci, fs)))) (hcl : vwCl[ci]? = some (CN, T, N)) (hn : as.length = n) (hst : st = as.reverse ++ .ref (qc 0) :: st') (hsum : (st'.map fun v => v.category).sum ≤ 8) (hdg : decode cc pc = .ok (.invokevirtual index, 3)) (hc : cells ≤ R.cells) (hs : slots ≤ R.slots) (K : xJ p l e R s m args below meth c G A nL Q cells slots sh q μ' ν' lv (.int r :: st') (pc + 3)) : xJ p l e R s m args below meth c G A nL Q cells slots sh q μ ν lv st pc := by
  intro H locs ls hP hS hl
  subst hst
  exact va_calli (va_runV (As := as) (rest := st') ⟨C.1, C.2.1, C.2.2.2.1, C.2.2.2.2.1, C.2.2.2.2.2.1⟩ (hM H.size) cw (g_preV C hq hF hP hsc hcl as) rfl hn hl.1 rfl (lv_room hsum) hdg ⟨hc, hs⟩) hS (fun a _ h => g_frA C hq hF hS a h) (g_frA C hq hF hS) (fun r' u t H1 locs1 ht hvm hw hB hz hk hS1 => by
    have hw : r' = r := hw
    subst hw
    have hB : va_P G.1 vwCl (wd G qc μr νr 0 shc) t.heap := hB
    rw [ht] at hB
    exact K H1 locs1 ls (hF.2.2.2 H H1 hq.1 hP hB hk) hS1 hl)
theorem x_callSl (C : xC p s m args meth c G A nL cc own Ts) (hq : gD A q sh.length) {av : List Value} {r : Int64} (hF : gFr G sh q μ ν shc qc μc νc μr νr μ' ν') (hM : gMl l y wsy rm G shc qc μc νc av μr νr r) (cw : CallB R s args own index y bytes maxL ret wsy rm 0 0 n ∧ (Cond.static y).before args s = true) (hn : av.length = n) (hst : st = av.reverse ++ st') (hsum : (st'.map fun v => v.category).sum ≤ 8) (hdg : decode cc pc = .ok (.invokestatic index, 3)) (hc : cells ≤ R.cells) (hs : slots ≤ R.slots) (K : xJ p l e R s m args below meth c G A nL Q cells slots sh q μ' ν' lv (.long r :: st') (pc + 3)) : xJ p l e R s m args below meth c G A nL Q cells slots sh q μ ν lv st pc := by
  intro H locs ls hP hS hl
  subst hst
  exact va_calll (va_runS (As := av) (rest := st') ⟨C.1, C.2.1, C.2.2.2.1, C.2.2.2.2.1, C.2.2.2.2.2.1⟩ (hM H.size) cw (g_preS C hq hF hP av) rfl hn hl.1 rfl (lv_room hsum) hdg ⟨hc, hs⟩) hS (fun a _ h => g_frA C hq hF hS a h) (g_frA C hq hF hS) (fun r' u t H1 locs1 ht hvm hw hB hz hk hS1 => by
    have hw : r' = r := hw
    subst hw
    have hB : va_P G.1 vwCl (wd G qc μr νr 0 shc) t.heap := hB
    rw [ht] at hB
    exact K H1 locs1 ls (hF.2.2.2 H H1 hq.1 hP hB hk) hS1 hl)
theorem x_callVl (C : xC p s m args meth c G A nL cc own Ts) (hq : gD A q sh.length) {as : List Value} {ci : Nat} {fs : List gF} {CN : String} {T : u_T} {N : Nat} {r : Int64} (hF : gFr G sh q μ ν shc qc μc νc μr νr μ' ν') (hM : gMl l y wsy rm G shc qc μc νc (.ref (qc 0) :: as) μr νr r) (cw : CallW R s args own CN index y bytes maxL ret wsy rm 0 0 n) (hsc : shc[0]? = some (.inr (.inl (ci, fs)))) (hcl : vwCl[ci]? = some (CN, T, N)) (hn : as.length = n) (hst : st = as.reverse ++ .ref (qc 0) :: st') (hsum : (st'.map fun v => v.category).sum ≤ 8) (hdg : decode cc pc = .ok (.invokevirtual index, 3)) (hc : cells ≤ R.cells) (hs : slots ≤ R.slots) (K : xJ p l e R s m args below meth c G A nL Q cells slots sh q μ' ν' lv (.long r :: st') (pc + 3)) : xJ p l e R s m args below meth c G A nL Q cells slots sh q μ ν lv st pc := by
  intro H locs ls hP hS hl
  subst hst
  exact va_calll (va_runV (As := as) (rest := st') ⟨C.1, C.2.1, C.2.2.2.1, C.2.2.2.2.1, C.2.2.2.2.2.1⟩ (hM H.size) cw (g_preV C hq hF hP hsc hcl as) rfl hn hl.1 rfl (lv_room hsum) hdg ⟨hc, hs⟩) hS (fun a _ h => g_frA C hq hF hS a h) (g_frA C hq hF hS) (fun r' u t H1 locs1 ht hvm hw hB hz hk hS1 => by
    have hw : r' = r := hw
    subst hw
    have hB : va_P G.1 vwCl (wd G qc μr νr 0 shc) t.heap := hB
    rw [ht] at hB
    exact K H1 locs1 ls (hF.2.2.2 H H1 hq.1 hP hB hk) hS1 hl)
theorem x_callSd (C : xC p s m args meth c G A nL cc own Ts) (hq : gD A q sh.length) {av : List Value} {r : UInt64} (hF : gFr G sh q μ ν shc qc μc νc μr νr μ' ν') (hM : gMd l y wsy rm G shc qc μc νc av μr νr r) (cw : CallB R s args own index y bytes maxL ret wsy rm 0 0 n ∧ (Cond.static y).before args s = true) (hn : av.length = n) (hst : st = av.reverse ++ st') (hsum : (st'.map fun v => v.category).sum ≤ 8) (hdg : decode cc pc = .ok (.invokestatic index, 3)) (hc : cells ≤ R.cells) (hs : slots ≤ R.slots) (K : xJ p l e R s m args below meth c G A nL Q cells slots sh q μ' ν' lv (.double r :: st') (pc + 3)) : xJ p l e R s m args below meth c G A nL Q cells slots sh q μ ν lv st pc := by
  intro H locs ls hP hS hl
  subst hst
  exact va_calld (va_runS (As := av) (rest := st') ⟨C.1, C.2.1, C.2.2.2.1, C.2.2.2.2.1, C.2.2.2.2.2.1⟩ (hM H.size) cw (g_preS C hq hF hP av) rfl hn hl.1 rfl (lv_room hsum) hdg ⟨hc, hs⟩) hS (fun a _ h => g_frA C hq hF hS a h) (g_frA C hq hF hS) (fun r' u t H1 locs1 ht hvm hw hB hz hk hS1 => by
    have hw : r' = r := hw
    subst hw
    have hB : va_P G.1 vwCl (wd G qc μr νr 0 shc) t.heap := hB
    rw [ht] at hB
    exact K H1 locs1 ls (hF.2.2.2 H H1 hq.1 hP hB hk) hS1 hl)
theorem x_callVd (C : xC p s m args meth c G A nL cc own Ts) (hq : gD A q sh.length) {as : List Value} {ci : Nat} {fs : List gF} {CN : String} {T : u_T} {N : Nat} {r : UInt64} (hF : gFr G sh q μ ν shc qc μc νc μr νr μ' ν') (hM : gMd l y wsy rm G shc qc μc νc (.ref (qc 0) :: as) μr νr r) (cw : CallW R s args own CN index y bytes maxL ret wsy rm 0 0 n) (hsc : shc[0]? = some (.inr (.inl (ci, fs)))) (hcl : vwCl[ci]? = some (CN, T, N)) (hn : as.length = n) (hst : st = as.reverse ++ .ref (qc 0) :: st') (hsum : (st'.map fun v => v.category).sum ≤ 8) (hdg : decode cc pc = .ok (.invokevirtual index, 3)) (hc : cells ≤ R.cells) (hs : slots ≤ R.slots) (K : xJ p l e R s m args below meth c G A nL Q cells slots sh q μ' ν' lv (.double r :: st') (pc + 3)) : xJ p l e R s m args below meth c G A nL Q cells slots sh q μ ν lv st pc := by
  intro H locs ls hP hS hl
  subst hst
  exact va_calld (va_runV (As := as) (rest := st') ⟨C.1, C.2.1, C.2.2.2.1, C.2.2.2.2.1, C.2.2.2.2.2.1⟩ (hM H.size) cw (g_preV C hq hF hP hsc hcl as) rfl hn hl.1 rfl (lv_room hsum) hdg ⟨hc, hs⟩) hS (fun a _ h => g_frA C hq hF hS a h) (g_frA C hq hF hS) (fun r' u t H1 locs1 ht hvm hw hB hz hk hS1 => by
    have hw : r' = r := hw
    subst hw
    have hB : va_P G.1 vwCl (wd G qc μr νr 0 shc) t.heap := hB
    rw [ht] at hB
    exact K H1 locs1 ls (hF.2.2.2 H H1 hq.1 hP hB hk) hS1 hl)
theorem x_callSv (C : xC p s m args meth c G A nL cc own Ts) (hq : gD A q sh.length) {av : List Value} (hF : gFr G sh q μ ν shc qc μc νc μr νr μ' ν') (hM : gMv l y wsy rm G shc qc μc νc av μr νr) (cw : CallB R s args own index y bytes maxL ret wsy rm 0 0 n ∧ (Cond.static y).before args s = true) (hn : av.length = n) (hst : st = av.reverse ++ st') (hsum : (st'.map fun v => v.category).sum ≤ 8) (hdg : decode cc pc = .ok (.invokestatic index, 3)) (hc : cells ≤ R.cells) (hs : slots ≤ R.slots) (K : xJ p l e R s m args below meth c G A nL Q cells slots sh q μ' ν' lv st' (pc + 3)) : xJ p l e R s m args below meth c G A nL Q cells slots sh q μ ν lv st pc := by
  intro H locs ls hP hS hl
  subst hst
  exact va_callv (va_runS (As := av) (rest := st') ⟨C.1, C.2.1, C.2.2.2.1, C.2.2.2.2.1, C.2.2.2.2.2.1⟩ (hM H.size) cw (g_preS C hq hF hP av) rfl hn hl.1 rfl (lv_room hsum) hdg ⟨hc, hs⟩) hS (fun a _ h => g_frA C hq hF hS a h) (g_frA C hq hF hS) (fun u t H1 locs1 ht hvm hw hB hz hk hS1 => by
    have hB : va_P G.1 vwCl (wd G qc μr νr 0 shc) t.heap := hB
    rw [ht] at hB
    exact K H1 locs1 ls (hF.2.2.2 H H1 hq.1 hP hB hk) hS1 hl)
theorem x_callVv (C : xC p s m args meth c G A nL cc own Ts) (hq : gD A q sh.length) {as : List Value} {ci : Nat} {fs : List gF} {CN : String} {T : u_T} {N : Nat} (hF : gFr G sh q μ ν shc qc μc νc μr νr μ' ν') (hM : gMv l y wsy rm G shc qc μc νc (.ref (qc 0) :: as) μr νr) (cw : CallW R s args own CN index y bytes maxL ret wsy rm 0 0 n) (hsc : shc[0]? = some (.inr (.inl (ci, fs)))) (hcl : vwCl[ci]? = some (CN, T, N)) (hn : as.length = n) (hst : st = as.reverse ++ .ref (qc 0) :: st') (hsum : (st'.map fun v => v.category).sum ≤ 8) (hdg : decode cc pc = .ok (.invokevirtual index, 3)) (hc : cells ≤ R.cells) (hs : slots ≤ R.slots) (K : xJ p l e R s m args below meth c G A nL Q cells slots sh q μ' ν' lv st' (pc + 3)) : xJ p l e R s m args below meth c G A nL Q cells slots sh q μ ν lv st pc := by
  intro H locs ls hP hS hl
  subst hst
  exact va_callv (va_runV (As := as) (rest := st') ⟨C.1, C.2.1, C.2.2.2.1, C.2.2.2.2.1, C.2.2.2.2.2.1⟩ (hM H.size) cw (g_preV C hq hF hP hsc hcl as) rfl hn hl.1 rfl (lv_room hsum) hdg ⟨hc, hs⟩) hS (fun a _ h => g_frA C hq hF hS a h) (g_frA C hq hF hS) (fun u t H1 locs1 ht hvm hw hB hz hk hS1 => by
    have hB : va_P G.1 vwCl (wd G qc μr νr 0 shc) t.heap := hB
    rw [ht] at hB
    exact K H1 locs1 ls (hF.2.2.2 H H1 hq.1 hP hB hk) hS1 hl)
end XK
/-- what lies beyond a row's length doesn't matter -/
theorem wd_cong {G : gG} {q : Nat → Nat} {μ μ' : gM} {ν ν' : gN} {sh : List gC} {H : Heap} (h1 : ∀ k n, sh[k]? = some (.inl n) → ∀ j, j < n → μ' k j = μ k j) (h2 : ∀ k d, sh[k]? = some d → (∀ n, d ≠ .inl n) → μ' k = μ k ∧ ν' k = ν k) (h : va_P G.1 vwCl (wd G q μ ν 0 sh) H) : va_P G.1 vwCl (wd G q μ' ν' 0 sh) H := by
  intro k z hz
  obtain ⟨d, hd, rfl⟩ := wd_of hz
  have h3 := h k _ (wd_at hd)
  by_cases hn : ∃ n, d = .inl n
  · obtain ⟨n, rfl⟩ := hn
    have e : vp_cell G.2.1 (n, .inl (μ' k)) = vp_cell G.2.1 (n, .inl (μ k)) := by
      rw [vp_cell_i, vp_cell_i]
      unfold arrV
      congr 1
      apply Array.ext
      · simp
      · intro i hi1 hi2
        simp only [Array.getElem_ofFn]
        rw [h1 k n hd i (by simpa using hi1)]
    show H[q k]? = some (vp_cell G.2.1 (n, .inl (μ' k)))
    rw [e]
    exact h3
  · have h4 := h2 k d hd (fun n e => hn ⟨n, e⟩)
    rw [g_cell_cong h4.1 h4.2]
    exact h3
section XM
variable {p : Program} {l : Launch} {e : Env} {R : Room} {s : State} {m : MethodId} {args : Array Value} {below : List Frame} {meth : Method} {c : Code} {G : gG} {A : Nat → Prop} {nL : Nat} {Q : State → Prop} {cells slots : Nat} {sh : List gC} {q : Nat → Nat} {μ μ' : gM} {ν ν' : gN} {lv lv' : List (Nat × Value)} {st : List Value} {pc : Nat}
variable {cc : ByteArray} {own : String} {Ts : List Cond}
theorem x_dup2 (C : xC p s m args meth c G A nL cc own Ts) {v w : Value} (d : decode cc pc = .ok (.dup2, 1)) (hv : v.category = 1) (hw : w.category = 1) (k : xJ p l e R s m args below meth c G A nL Q cells slots sh q μ ν lv (v :: w :: v :: w :: st) (pc + 1)) : xJ p l e R s m args below meth c G A nL Q cells slots sh q μ ν lv (v :: w :: st) pc := fun H locs ls hP hS hl => lv_dup2_11 C.1 C.2.1 d hv hw (k H locs ls hP hS hl)
theorem x_topi {x z : Int32} (h : z = x) (k : xJ p l e R s m args below meth c G A nL Q cells slots sh q μ ν lv (.int z :: st) pc) : xJ p l e R s m args below meth c G A nL Q cells slots sh q μ ν lv (.int x :: st) pc := by subst h; exact k
theorem x_topl {x z : Int64} (h : z = x) (k : xJ p l e R s m args below meth c G A nL Q cells slots sh q μ ν lv (.long z :: st) pc) : xJ p l e R s m args below meth c G A nL Q cells slots sh q μ ν lv (.long x :: st) pc := by subst h; exact k
theorem x_topd {x z : UInt64} (h : z = x) (k : xJ p l e R s m args below meth c G A nL Q cells slots sh q μ ν lv (.double z :: st) pc) : xJ p l e R s m args below meth c G A nL Q cells slots sh q μ ν lv (.double x :: st) pc := by subst h; exact k
theorem x_mu {μ2 : gM} {ν2 : gN} (h1 : μ2 = μ) (h2 : ν = ν2) (k : xJ p l e R s m args below meth c G A nL Q cells slots sh q μ2 ν2 lv st pc) : xJ p l e R s m args below meth c G A nL Q cells slots sh q μ ν lv st pc := by subst h1; subst h2; exact k
theorem x_i2d (C : xC p s m args meth c G A nL cc own Ts) {x : Int32} (d : decode cc pc = .ok (.i2d, 1)) (k : xJ p l e R s m args below meth c G A nL Q cells slots sh q μ ν lv (.double (FP.i2d x) :: st) (pc + 1)) : xJ p l e R s m args below meth c G A nL Q cells slots sh q μ ν lv (.int x :: st) pc := fun H locs ls hP hS hl => lv_i2d C.1 C.2.1 d (k H locs ls hP hS hl)
theorem x_d2l (C : xC p s m args meth c G A nL cc own Ts) {x : UInt64} (d : decode cc pc = .ok (.d2l, 1)) (k : xJ p l e R s m args below meth c G A nL Q cells slots sh q μ ν lv (.long (FP.d2l x) :: st) (pc + 1)) : xJ p l e R s m args below meth c G A nL Q cells slots sh q μ ν lv (.double x :: st) pc := fun H locs ls hP hS hl => lv_d2l C.1 C.2.1 d (k H locs ls hP hS hl)
theorem x_ddiv (C : xC p s m args meth c G A nL cc own Ts) {x y : UInt64} (d : decode cc pc = .ok (.ddiv, 1)) (hne : vf_n64 (FP.ddiv x y)) (k : xJ p l e R s m args below meth c G A nL Q cells slots sh q μ ν lv (.double (FP.ddiv x y) :: st) (pc + 1)) : xJ p l e R s m args below meth c G A nL Q cells slots sh q μ ν lv (.double y :: .double x :: st) pc := fun H locs ls hP hS hl => lv_ddiv C.1 C.2.1 d hne (k H locs ls hP hS hl)
theorem x_dsub (C : xC p s m args meth c G A nL cc own Ts) {x y : UInt64} (d : decode cc pc = .ok (.dsub, 1)) (hne : vf_n64 (FP.dsub x y)) (k : xJ p l e R s m args below meth c G A nL Q cells slots sh q μ ν lv (.double (FP.dsub x y) :: st) (pc + 1)) : xJ p l e R s m args below meth c G A nL Q cells slots sh q μ ν lv (.double y :: .double x :: st) pc := fun H locs ls hP hS hl => lv_dsub C.1 C.2.1 d hne (k H locs ls hP hS hl)
theorem x_dmul (C : xC p s m args meth c G A nL cc own Ts) {x y : UInt64} (d : decode cc pc = .ok (.dmul, 1)) (hne : vf_n64 (FP.dmul x y)) (k : xJ p l e R s m args below meth c G A nL Q cells slots sh q μ ν lv (.double (FP.dmul x y) :: st) (pc + 1)) : xJ p l e R s m args below meth c G A nL Q cells slots sh q μ ν lv (.double y :: .double x :: st) pc := fun H locs ls hP hS hl => lv_dmul C.1 C.2.1 d hne (k H locs ls hP hS hl)
theorem x_tin (C : xC p s m args meth c G A nL cc own Ts) {dflt lo hi : Int} {offs : Array Int} {len : Nat} {x v : Int32} {off : Int} {tgt : Nat} (d : decode cc pc = .ok (.tableswitch dflt lo hi offs, len)) (hx : x = v) (h1 : ¬ v.toInt < lo) (h2 : ¬ hi < v.toInt) (ho : offs[(v.toInt - lo).toNat]? = some off) (ht : (pc : Int) + off = (tgt : Int)) (k : xJ p l e R s m args below meth c G A nL Q cells slots sh q μ ν lv st tgt) : xJ p l e R s m args below meth c G A nL Q cells slots sh q μ ν lv (.int x :: st) pc := by
  subst hx
  exact fun H locs ls hP hS hl => lv_tableIn C.1 C.2.1 d h1 h2 ho ht (k H locs ls hP hS hl)
theorem x_tout (C : xC p s m args meth c G A nL cc own Ts) {dflt lo hi : Int} {offs : Array Int} {len : Nat} {x : Int32} {tgt : Nat} (d : decode cc pc = .ok (.tableswitch dflt lo hi offs, len)) (h : x.toInt < lo ∨ hi < x.toInt) (ht : (pc : Int) + dflt = (tgt : Int)) (k : xJ p l e R s m args below meth c G A nL Q cells slots sh q μ ν lv st tgt) : xJ p l e R s m args below meth c G A nL Q cells slots sh q μ ν lv (.int x :: st) pc := fun H locs ls hP hS hl => lv_tableOut C.1 C.2.1 d h ht (k H locs ls hP hS hl)
theorem x_look (C : xC p s m args meth c G A nL cc own Ts) {dflt : Int} {ps : Array (Int × Int)} {len : Nat} {x : Int32} {off : Int} {tgt : Nat} (d : decode cc pc = .ok (.lookupswitch dflt ps, len)) (hp : (ps.toList.zip (ps.toList.drop 1)).all (fun (a, next) => a.1 < next.1) = true) (ho : Op.lookupswitch.offset ps.toList dflt x.toInt = off) (ht : (pc : Int) + off = (tgt : Int)) (k : xJ p l e R s m args below meth c G A nL Q cells slots sh q μ ν lv st tgt) : xJ p l e R s m args below meth c G A nL Q cells slots sh q μ ν lv (.int x :: st) pc := fun H locs ls hP hS hl => lv_lookup C.1 C.2.1 d hp ho ht (k H locs ls hP hS hl)
theorem x_min (C : xC p s m args meth c G A nL cc own Ts) {index : Nat} {x y v : Int32} (hlink : Cond.methodLink own index Lib.Math.min.name ∈ Ts) (hstat : Cond.static Lib.Math.min.name ∈ Ts) (hini : Cond.initialized "java/lang/Math" ∈ Ts) (hcode : Cond.code Lib.Math.min.name Lib.Math.min.code 2 (some .int) ∈ Ts) (hf : 1 ≤ R.frames) (hl : (st.map fun v => v.category).sum + 13 ≤ R.locals) (hc : cells ≤ R.cells) (hs : slots ≤ R.slots) (d : decode cc pc = .ok (.invokestatic index, 3)) (hv : (if y < x then y else x) = v) (k : xJ p l e R s m args below meth c G A nL Q cells slots sh q μ ν lv (.int v :: st) (pc + 3)) : xJ p l e R s m args below meth c G A nL Q cells slots sh q μ ν lv (.int y :: .int x :: st) pc := by
  subst hv
  exact fun H locs ls hP hS hl9 => va_mmin C.1 C.2.1 (C.2.2.2.1.trans hl9.1.symm) C.2.2.2.2.1 (C.2.2.2.2.2.1 _ hlink) (C.2.2.2.2.2.1 _ hstat) (C.2.2.2.2.2.1 _ hini) (C.2.2.2.2.2.1 _ hcode) hf hl hc hs d (k H locs ls hP hS hl9)
theorem x_max (C : xC p s m args meth c G A nL cc own Ts) {index : Nat} {x y v : Int32} (hlink : Cond.methodLink own index Lib.Math.max.name ∈ Ts) (hstat : Cond.static Lib.Math.max.name ∈ Ts) (hini : Cond.initialized "java/lang/Math" ∈ Ts) (hcode : Cond.code Lib.Math.max.name Lib.Math.max.code 2 (some .int) ∈ Ts) (hf : 1 ≤ R.frames) (hl : (st.map fun v => v.category).sum + 13 ≤ R.locals) (hc : cells ≤ R.cells) (hs : slots ≤ R.slots) (d : decode cc pc = .ok (.invokestatic index, 3)) (hv : (if x < y then y else x) = v) (k : xJ p l e R s m args below meth c G A nL Q cells slots sh q μ ν lv (.int v :: st) (pc + 3)) : xJ p l e R s m args below meth c G A nL Q cells slots sh q μ ν lv (.int y :: .int x :: st) pc := by
  subst hv
  exact fun H locs ls hP hS hl9 => va_mmax C.1 C.2.1 (C.2.2.2.1.trans hl9.1.symm) C.2.2.2.2.1 (C.2.2.2.2.2.1 _ hlink) (C.2.2.2.2.2.1 _ hstat) (C.2.2.2.2.2.1 _ hini) (C.2.2.2.2.2.1 _ hcode) hf hl hc hs d (k H locs ls hP hS hl9)
theorem x_aload (C : xC p s m args meth c G A nL cc own Ts) {i : Nat} {x : Nat} (d : decode cc pc = .ok (.aload i, 2)) (a : Nat) (ha : lv[a]? = some (i, .ref x)) (k : xJ p l e R s m args below meth c G A nL Q cells slots sh q μ ν lv (.ref x :: st) (pc + 2)) : xJ p l e R s m args below meth c G A nL Q cells slots sh q μ ν lv st pc := fun H locs ls hP hS hl => lv_aload C.1 C.2.1 d (lv_at hl a ha) (k H locs ls hP hS hl)
theorem x_astore_n (C : xC p s m args meth c G A nL cc own Ts) {j : Fin 4} {i : Nat} {x : Nat} (d : decode cc pc = .ok (.astore_n j, 1)) (hi : (j : Nat) = i) (hn : i < nL) (ks : List Nat) (hk : lv_pick ((i, Value.ref x) :: lv.filter (fun q => !(q.1 == i) && !(q.1 + 1 == i && q.2.category == 2))) ks = lv') (k : xJ p l e R s m args below meth c G A nL Q cells slots sh q μ ν lv' st (pc + 1)) : xJ p l e R s m args below meth c G A nL Q cells slots sh q μ ν lv (.ref x :: st) pc := fun H locs ls hP hS hl => lv_astore_n C.1 C.2.1 d hi hl hn rfl (fun ls hl => k H locs ls hP hS (lv_sub hl ks hk))
theorem x_astore (C : xC p s m args meth c G A nL cc own Ts) {i : Nat} {x : Nat} (d : decode cc pc = .ok (.astore i, 2)) (hn : i < nL) (ks : List Nat) (hk : lv_pick ((i, Value.ref x) :: lv.filter (fun q => !(q.1 == i) && !(q.1 + 1 == i && q.2.category == 2))) ks = lv') (k : xJ p l e R s m args below meth c G A nL Q cells slots sh q μ ν lv' st (pc + 2)) : xJ p l e R s m args below meth c G A nL Q cells slots sh q μ ν lv (.ref x :: st) pc := fun H locs ls hP hS hl => lv_astore C.1 C.2.1 d hl hn rfl (fun ls hl => k H locs ls hP hS (lv_sub hl ks hk))
theorem x_dload (C : xC p s m args meth c G A nL cc own Ts) {i : Nat} {x : UInt64} (d : decode cc pc = .ok (.dload i, 2)) (a : Nat) (ha : lv[a]? = some (i, .double x)) (k : xJ p l e R s m args below meth c G A nL Q cells slots sh q μ ν lv (.double x :: st) (pc + 2)) : xJ p l e R s m args below meth c G A nL Q cells slots sh q μ ν lv st pc := fun H locs ls hP hS hl => lv_dload C.1 C.2.1 d (lv_at hl a ha) (k H locs ls hP hS hl)
theorem x_lload (C : xC p s m args meth c G A nL cc own Ts) {i : Nat} {x : Int64} (d : decode cc pc = .ok (.lload i, 2)) (a : Nat) (ha : lv[a]? = some (i, .long x)) (k : xJ p l e R s m args below meth c G A nL Q cells slots sh q μ ν lv (.long x :: st) (pc + 2)) : xJ p l e R s m args below meth c G A nL Q cells slots sh q μ ν lv st pc := fun H locs ls hP hS hl => lv_lload C.1 C.2.1 d (lv_at hl a ha) (k H locs ls hP hS hl)
theorem x_dcmp (C : xC p s m args meth c G A nL cc own Ts) {x y : UInt64} {op : CmpOp} (d : decode cc pc = .ok (.dcmp op, 1)) (k : xJ p l e R s m args below meth c G A nL Q cells slots sh q μ ν lv (.int (Op.cmpValue (FP.dcmp x y) op) :: st) (pc + 1)) : xJ p l e R s m args below meth c G A nL Q cells slots sh q μ ν lv (.double y :: .double x :: st) pc := fun H locs ls hP hS hl => lv_dcmp C.1 C.2.1 d (k H locs ls hP hS hl)
theorem x_lcmp (C : xC p s m args meth c G A nL cc own Ts) {x y : Int64} (d : decode cc pc = .ok (.lcmp, 1)) (k : xJ p l e R s m args below meth c G A nL Q cells slots sh q μ ν lv (.int (lg_cmp x y) :: st) (pc + 1)) : xJ p l e R s m args below meth c G A nL Q cells slots sh q μ ν lv (.long y :: .long x :: st) pc := fun H locs ls hP hS hl => W.lcmp C.1 C.2.1 d (k H locs ls hP hS hl)
theorem x_copy0 (C : xC p s m args meth c G A nL cc own Ts) (hq : gD A q sh.length) (k0 k1 : Nat) {N index : Nat} {x y z : Int32} (hs0 : sh[k0]? = some (.inl N)) (hs1 : sh[k1]? = some (.inl N)) (hx : x = Int32.ofNat N) (hy : y = 0) (hz : z = 0) (hN : N < 2 ^ 31) (hlink : Cond.methodLink own index arraycopyName ∈ Ts) (hnat : Cond.native arraycopyName ∈ Ts) (hstat : Cond.static arraycopyName ∈ Ts) (hini : Cond.initialized "java/lang/System" ∈ Ts) (hμ : μ' = g_set μ k1 (μ k0)) (hf : 1 ≤ R.frames) (hl : (st.map fun v => v.category).sum + (nativeFrameWords "java/lang/System" "arraycopy" 5 + 11) ≤ R.locals) (d : decode cc pc = .ok (.invokestatic index, 3)) (K : xJ p l e R s m args below meth c G A nL Q cells slots sh q μ' ν lv st (pc + 3)) : xJ p l e R s m args below meth c G A nL Q cells slots sh q μ ν lv (.int x :: .int z :: .ref (q k1) :: .int y :: .ref (q k0) :: st) pc := by
  intro H locs ls hP hS hl9
  subst hy; subst hz
  have hxN : x = nI N := hx
  have hxc : x.toNatClampNeg = N := by rw [hxN]; exact nI_clamp hN
  have h0 : (0 : Int32).toNatClampNeg = 0 := by decide
  refine va_copyi (D := G.1) (cl := vwCl) (tys := gT G) (ty := .int) C.1 C.2.1 (C.2.2.2.1.trans hl9.1.symm) C.2.2.2.2.1 (C.2.2.2.2.2.1 _ hlink) (C.2.2.2.2.2.1 _ hnat) (C.2.2.2.2.2.1 _ hstat) (C.2.2.2.2.2.1 _ hini) C.2.2.2.2.2.2.1 hP (gD_wd hq G μ ν) hS k0 k1 0 0 (wd_at hs0) (wd_at hs1) rfl rfl rfl (by decide) (by decide) (by rw [hxN]; exact nI_pos hN) (by rw [hxc, h0]; omega) (by rw [hxc, h0]; omega) (fun _ _ => rfl) hf hl d (fun H1 locs1 hP1 _ hS1 => K H1 locs1 ls ?_ hS1 hl9)
  have e1 : va_P G.1 vwCl (wd G q (g_set μ k1 (va_cpy (μ k0) (μ k1) 0 0 N)) ν 0 sh) H1 := by
    rw [hxc, h0] at hP1
    have e : g_cell G q (g_set μ k1 (va_cpy (μ k0) (μ k1) 0 0 N)) ν k1 (.inl N) = .inl (G.2.1, N, .inl (va_cpy (μ k0) (μ k1) 0 0 N)) := by
      unfold g_cell; rw [g_set_s]
    rw [← wd_set (μ' := g_set μ k1 (va_cpy (μ k0) (μ k1) 0 0 N)) (ν' := ν) hs1 (fun j hj => ⟨g_set_n hj, rfl⟩), e]
    exact hP1
  refine wd_cong (μ := g_set μ k1 (va_cpy (μ k0) (μ k1) 0 0 N)) (ν := ν) (fun k n hk j hj => ?_) (fun k d' hd' hn => ?_) e1
  · by_cases hkk : k = k1
    · subst hkk
      have : n = N := by have := hk.symm.trans hs1; simpa using this
      subst this
      rw [hμ, g_set_s, g_set_s]
      simp [va_cpy, hj]
    · rw [hμ, g_set_n hkk, g_set_n hkk]
  · have hkk : k ≠ k1 := fun h => by subst h; exact hn N (Option.some.inj (hd'.symm.trans hs1))
    exact ⟨by rw [hμ, g_set_n hkk, g_set_n hkk], rfl⟩
theorem x_ldc (C : xC p s m args meth c G A nL cc own Ts) {index : Nat} {v : Int32} (hc : Cond.constant own index v ∈ Ts) (d : decode cc pc = .ok (.ldc index, 2)) (k : xJ p l e R s m args below meth c G A nL Q cells slots sh q μ ν lv (.int v :: st) (pc + 2)) : xJ p l e R s m args below meth c G A nL Q cells slots sh q μ ν lv st pc := fun H locs ls hP hS hl => lv_ldc C.1 C.2.1 C.2.2.2.2.1 (C.2.2.2.2.2.1 _ hc) d (k H locs ls hP hS hl)
theorem x_ldcw (C : xC p s m args meth c G A nL cc own Ts) {index : Nat} {v : Int32} (hc : Cond.constant own index v ∈ Ts) (d : decode cc pc = .ok (.ldc_w index, 3)) (k : xJ p l e R s m args below meth c G A nL Q cells slots sh q μ ν lv (.int v :: st) (pc + 3)) : xJ p l e R s m args below meth c G A nL Q cells slots sh q μ ν lv st pc := fun H locs ls hP hS hl => lv_ldcw C.1 C.2.1 C.2.2.2.2.1 (C.2.2.2.2.2.1 _ hc) d (k H locs ls hP hS hl)
theorem x_ldc2 (C : xC p s m args meth c G A nL cc own Ts) {index : Nat} {v : Int64} (hc : Cond.constantLong own index v ∈ Ts) (d : decode cc pc = .ok (.ldc2_w index, 3)) (k : xJ p l e R s m args below meth c G A nL Q cells slots sh q μ ν lv (.long v :: st) (pc + 3)) : xJ p l e R s m args below meth c G A nL Q cells slots sh q μ ν lv st pc := fun H locs ls hP hS hl => lv_ldc2 C.1 C.2.1 C.2.2.2.2.1 (C.2.2.2.2.2.1 _ hc) d (k H locs ls hP hS hl)
theorem x_ldc2d (C : xC p s m args meth c G A nL cc own Ts) {index : Nat} {v : UInt64} (hc : Cond.constantDouble own index v ∈ Ts) (d : decode cc pc = .ok (.ldc2_w index, 3)) (k : xJ p l e R s m args below meth c G A nL Q cells slots sh q μ ν lv (.double v :: st) (pc + 3)) : xJ p l e R s m args below meth c G A nL Q cells slots sh q μ ν lv st pc := fun H locs ls hP hS hl => lv_ldc2d C.1 C.2.1 C.2.2.2.2.1 (C.2.2.2.2.2.1 _ hc) d (k H locs ls hP hS hl)
theorem x_dconst1 (C : xC p s m args meth c G A nL cc own Ts) (d : decode cc pc = .ok (.dconst 1, 1)) (k : xJ p l e R s m args below meth c G A nL Q cells slots sh q μ ν lv (.double FP.dconst1 :: st) (pc + 1)) : xJ p l e R s m args below meth c G A nL Q cells slots sh q μ ν lv st pc := fun H locs ls hP hS hl => lv_dconst1 C.1 C.2.1 d (k H locs ls hP hS hl)
theorem x_d2raw (C : xC p s m args meth c G A nL cc own Ts) {index : Nat} {b : UInt64} (h1 : Cond.methodLink own index ⟨"java/lang/Double", "doubleToRawLongBits", "(D)J"⟩ ∈ Ts) (h2 : Cond.native ⟨"java/lang/Double", "doubleToRawLongBits", "(D)J"⟩ ∈ Ts) (h3 : Cond.static ⟨"java/lang/Double", "doubleToRawLongBits", "(D)J"⟩ ∈ Ts) (h4 : Cond.initialized "java/lang/Double" ∈ Ts) (hf : 1 ≤ R.frames) (hl : (st.map fun v => v.category).sum + 15 ≤ R.locals) (d : decode cc pc = .ok (.invokestatic index, 3)) (k : xJ p l e R s m args below meth c G A nL Q cells slots sh q μ ν lv (.long b.toInt64 :: st) (pc + 3)) : xJ p l e R s m args below meth c G A nL Q cells slots sh q μ ν lv (.double b :: st) pc := fun H locs ls hP hS hl9 => vn_d2l C.1 C.2.1 (C.2.2.2.1.trans hl9.1.symm) C.2.2.2.2.1 (C.2.2.2.2.2.1 _ h1) (C.2.2.2.2.2.1 _ h2) (C.2.2.2.2.2.1 _ h3) (C.2.2.2.2.2.1 _ h4) hf hl d (k H locs ls hP hS hl9)
theorem x_lstore (C : xC p s m args meth c G A nL cc own Ts) {i : Nat} {x : Int64} (d : decode cc pc = .ok (.lstore i, 2)) (hn : i + 1 < nL) (ks : List Nat) (hk : lv_pick ((i, Value.long x) :: lv.filter (fun q => !(q.1 == i) && (!(q.1 == i + 1) && !(q.1 + 1 == i && q.2.category == 2)))) ks = lv') (k : xJ p l e R s m args below meth c G A nL Q cells slots sh q μ ν lv' st (pc + 2)) : xJ p l e R s m args below meth c G A nL Q cells slots sh q μ ν lv (.long x :: st) pc := fun H locs ls hP hS hl => lv_lstore C.1 C.2.1 d hl hn rfl (fun ls hl => k H locs ls hP hS (lv_sub hl ks hk))
theorem x_dstore (C : xC p s m args meth c G A nL cc own Ts) {i : Nat} {x : UInt64} (d : decode cc pc = .ok (.dstore i, 2)) (hn : i + 1 < nL) (ks : List Nat) (hk : lv_pick ((i, Value.double x) :: lv.filter (fun q => !(q.1 == i) && (!(q.1 == i + 1) && !(q.1 + 1 == i && q.2.category == 2)))) ks = lv') (k : xJ p l e R s m args below meth c G A nL Q cells slots sh q μ ν lv' st (pc + 2)) : xJ p l e R s m args below meth c G A nL Q cells slots sh q μ ν lv (.double x :: st) pc := fun H locs ls hP hS hl => lv_dstore C.1 C.2.1 d hl hn rfl (fun ls hl => k H locs ls hP hS (lv_sub hl ks hk))
end XM
theorem g_nz {v : Int32} (h : v = 0 ∨ v = 1) : narrow .boolean (.int v) = .int v := by
  rcases h with rfl | rfl <;> rfl
theorem g_fz {v : Int32} (h : v = 0 ∨ v = 1) : fits .boolean (.int v) = true := by
  rcases h with rfl | rfl <;> rfl
