/-! drawn(): the script is read, and nothing else -/
theorem divNN {a b : Nat} (ha : a < 2147483648) (hb0 : 0 < b) (hb : b < 2147483648) : Int32.ofNat a / Int32.ofNat b = Int32.ofNat (a / b) := by
  have h1 : a / b ≤ a := Nat.div_le_self a b
  apply Int32.toInt_inj.mp
  rw [Int32.toInt_div, Int32.toInt_ofNat_of_lt (by omega), Int32.toInt_ofNat_of_lt (by omega), Int32.toInt_ofNat_of_lt (by omega)]
  have e : ((a : Int).tdiv (b : Int)) = ((a / b : Nat) : Int) := rfl
  rw [e]
  clear e
  generalize a / b = d at *
  unfold Int.bmod
  rw [Int.emod_eq_of_lt (by omega) (by omega), if_pos (by omega)]
theorem modNN {a b : Nat} (ha : a < 2147483648) (hb0 : 0 < b) (hb : b < 2147483648) : Int32.ofNat a - Int32.ofNat a / Int32.ofNat b * Int32.ofNat b = Int32.ofNat (a % b) := by
  rw [divNN ha hb0 hb, nI_times]
  have h2 : a = a % b + a / b * b := by rw [Nat.mul_comm]; exact (Nat.mod_add_div a b).symm
  have e : Int32.ofNat a = Int32.ofNat (a % b + a / b * b) := congrArg _ h2
  rw [e]
  exact subNN _ _
theorem and_nat (v : Int32) : ∃ a, a < 2147483648 ∧ v &&& (2147483647 : Int32) = Int32.ofNat a := by
  refine ⟨(v &&& (2147483647 : Int32)).toUInt32.toNat, ?_, ?_⟩
  · have h : (v &&& (2147483647 : Int32)).toUInt32.toNat = v.toUInt32.toNat &&& 2147483647 := UInt32.toNat_and v.toUInt32 2147483647
    rw [h]
    exact Nat.lt_succ_of_le Nat.and_le_right
  · show _ = Int32.ofUInt32 (UInt32.ofNat (v &&& (2147483647 : Int32)).toUInt32.toNat)
    rw [UInt32.ofNat_toNat]
theorem part_v (v : Int32) {n : Nat} (h0 : 0 < n) (hn : n < 1000) : o_l_part v (Int32.ofNat n) ∧ ∃ j, j < n ∧ f_l_part v (Int32.ofNat n) = Int32.ofNat j := by
  obtain ⟨a, ha, e⟩ := and_nat v
  refine ⟨⟨neL (b := 0) (by omega) (by omega) (by omega), trivial⟩, a % n, Nat.mod_lt _ h0, ?_⟩
  unfold f_l_part
  rw [e]
  exact modNN ha h0 (by omega)
noncomputable def fdr (L : Nat) (xs : Nat → Int32) (k : Nat) : Int32 := if L = 0 then (7919 : Int32) * Int32.ofNat k + (3 : Int32) else ((xs (k % L) >>> ((Int32.ofNat k - Int32.ofNat k / (7 : Int32) * (7 : Int32)) &&& 31)) ^^^ (Int32.ofNat k / Int32.ofNat L * (31 : Int32))) ^^^ (Int32.ofNat k * (2654435 : Int32))
/-- the world is empty, and an array stands where it stood -/
def gPd (G : gG) (b L : Nat) (xs : Nat → Int32) (q : Nat → Nat) (μ : gM) (ν : gN) (sz : Nat) (av : List Value) : Array Value → State → Prop := fun v U => gPc G [] q μ ν sz av v U ∧ b < U.heap.size ∧ va_X b L xs U U.heap
theorem g_blindd {G : gG} {b L : Nat} {xs : Nat → Int32} {q : Nat → Nat} {μ : gM} {ν : gN} {sz : Nat} {av : List Value} : FrameBlind (gPd G b L xs q μ ν sz av) := fun a U g mk h => ⟨g_blind a U g mk h.1, h.2.1, va_X.moved (u := U) (U := U.calling g mk a) (Vm.Alike.refl U.vm) h.2.2⟩
def gMdr (l : Launch) (y : MethodName) (ws : List Cond) (rm : Room) (G : gG) (b L : Nat) (xs : Nat → Int32) (q : Nat → Nat) (μ : gM) (ν : gN) (av : List Value) (r : Int32) : Prop := ∀ sz : Nat, Met l y ws rm (gPd G b L xs q μ ν sz av) (gQi G [] q μ ν sz r) 0 0 (gA q ([] : List gC).length sz)
theorem g_metd {l : Launch} {y : MethodName} {ws ws' : List Cond} {rm : Room} {G : gG} {b L : Nat} {xs : Nat → Int32} {q : Nat → Nat} {μ : gM} {ν : gN} {av : List Value} {sz : Nat} {Qc : Nat → Array Value → State → Outcome → State → Prop} {cc : ByteArray} {maxL : Nat} {ret : Option FieldType} {own : String} (hy : plainName y.cls = true) (ho : y.cls = own) (hw : ws = Cond.code y cc maxL ret :: ws') (hlen : (lg_sl av).length ≤ maxL)
    (body : ∀ (p : Program) (e : Env) (s : State) (m : MethodId) (below : List Frame) (meth : Method) (c : Code), xC p s m av.toArray meth c G (gA q ([] : List gC).length s.heap.size) maxL cc own ws → b < s.heap.size → va_X b L xs s s.heap → meth.sig.returnType = ret → xJ p l e rm s m av.toArray below meth c G (gA q ([] : List gC).length s.heap.size) maxL (MQ below (Qc s.heap.size) av.toArray s 0 0 (gA q ([] : List gC).length s.heap.size)) 0 0 [] q μ ν (lv_args 0 av) [] 0) :
    Met l y ws rm (gPd G b L xs q μ ν sz av) (Qc sz) 0 0 (gA q ([] : List gC).length sz) := by
  refine Met.ofW (cc := cc) (maxL := maxL) (ret := ret) hy hw ?_
  intro p e s m args below meth c s₁ B hml hv
  obtain ⟨⟨rfl, rfl, hP, hK, hD⟩, hb, hX⟩ := hv
  have hts := atoms_spec (ws := ws) B.pre
  have hA : ∀ a : Nat, s.heap.size ≤ a → gA q ([] : List gC).length s.heap.size a := fun a h => Or.inr h
  have C : xC p s m av.toArray meth c G (gA q ([] : List gC).length s.heap.size) maxL cc own ws := ⟨B.exec, B.bytes, B.notSynchronized, hml, ho ▸ findClass_of_methodNamed B.named, hts, hK, hA⟩
  have hl := lv_entry av (n := maxL) hlen
  rw [lg_entry_eq]
  exact body p e s m below meth c C hb hX B.returns s.heap [] _ hP va_S.rf hl
set_option maxRecDepth 20000 in
theorem kc_L_drawn_8 : Cond.constant RL 8 (2654435) ∈ wsL_drawn := by decide +kernel
abbrev rmDR : Room := { frames := 0, cells := 0, slots := 0, locals := 0 }
set_option maxRecDepth 100000 in
set_option maxHeartbeats 4000000 in
theorem c_l_drawn (l : Launch) (G : gG) (q : Nat → Nat) (μ : gM) (ν : gN) {b L : Nat} {xs : Nat → Int32} (hL : L < 1000000) (k : Nat) (hk : k < 1000) : gMdr l yL_drawn wsL_drawn rmDR G b L xs q μ ν [.ref b, .int (Int32.ofNat k)] (fdr L xs k) := by
  intro sz
  refine g_metd (cc := cL_drawn) (maxL := 2) (ret := (some .int)) (own := RL) (Qc := fun sz => gQi G [] q μ ν sz (fdr L xs k)) (by decide) rfl rfl (Nat.le_of_ble_eq_true rfl) (fun p e s m9 below meth c C hb hX hr => ?_)
  have hbA : ¬ gA q ([] : List gC).length s.heap.size b := by
    rintro (⟨j, hj, -⟩ | h)
    · exact absurd hj (Nat.not_lt_zero _)
    · omega
  refine x_lv (lv' := [(0, .ref b), (1, .int (Int32.ofNat k))]) [0, 1] rfl ?_
  refine x_aload_n C dL_drawn_0 rfl 0 rfl ?_
  refine x_slen C hX hb hbA dL_drawn_1 ?_
  refine x_if_ne (tgt := 15) C dL_drawn_2 (by decide) (fun h => ?_) (fun h => ?_)
  · have hL0 : 0 < L := by
      rcases Nat.eq_zero_or_pos L with z | z
      · exact absurd (by rw [z]; rfl) h
      · exact z
    have e : fdr L xs k = ((xs (k % L) >>> ((Int32.ofNat k - Int32.ofNat k / (7 : Int32) * (7 : Int32)) &&& 31)) ^^^ (Int32.ofNat k / Int32.ofNat L * (31 : Int32))) ^^^ (Int32.ofNat k * (2654435 : Int32)) := if_neg (by omega)
    have n7 : ¬ ((7 : Int32) = 0) := by decide
    have em := modNN (a := k) (b := L) (by omega) hL0 (by omega)
    have hm := Nat.mod_lt k hL0
    refine x_aload_n C dL_drawn_15 rfl 0 rfl ?_
    refine x_iload_n C dL_drawn_16 rfl 1 rfl ?_
    refine x_aload_n C dL_drawn_17 rfl 0 rfl ?_
    refine x_slen C hX hb hbA dL_drawn_18 ?_
    refine x_irem C dL_drawn_19 h ?_
    refine x_topi (z := Int32.ofNat (k % L)) em.symm ?_
    refine x_sld (v := xs (k % L)) C hX hb hbA (vp_in_nI hm (by omega)) (by rw [nI_ix (by omega)]) dL_drawn_20 ?_
    refine x_iload_n C dL_drawn_21 rfl 1 rfl ?_
    refine x_bipush (v := (7 : Int32)) C dL_drawn_22 (by decide) ?_
    refine x_irem C dL_drawn_24 n7 ?_
    refine x_ishr C dL_drawn_25 ?_
    refine x_iload_n C dL_drawn_26 rfl 1 rfl ?_
    refine x_aload_n C dL_drawn_27 rfl 0 rfl ?_
    refine x_slen C hX hb hbA dL_drawn_28 ?_
    refine x_idiv C dL_drawn_29 h ?_
    refine x_bipush (v := (31 : Int32)) C dL_drawn_30 (by decide) ?_
    refine x_imul C dL_drawn_32 ?_
    refine x_ixor C dL_drawn_33 ?_
    refine x_iload_n C dL_drawn_34 rfl 1 rfl ?_
    refine x_ldc (v := (2654435 : Int32)) C kc_L_drawn_8 dL_drawn_35 ?_
    refine x_imul C dL_drawn_37 ?_
    refine x_ixor C dL_drawn_38 ?_
    exact g_iret0 C hr rfl dL_drawn_39 e.symm (Nat.zero_le _) (Nat.zero_le _)
  · have hL0 : L = 0 := nI_inj (b := 0) (by omega) (by omega) h
    have e : fdr L xs k = (7919 : Int32) * Int32.ofNat k + (3 : Int32) := if_pos hL0
    refine x_sipush (v := (7919 : Int32)) C dL_drawn_5 (by decide) ?_
    refine x_iload_n C dL_drawn_8 rfl 1 rfl ?_
    refine x_imul C dL_drawn_9 ?_
    refine x_iconst (v := (3 : Int32)) C dL_drawn_10 (by decide) ?_
    refine x_iadd C dL_drawn_11 ?_
    refine x_goto (tgt := 39) C dL_drawn_12 (by decide) ?_
    exact g_iret0 C hr rfl dL_drawn_39 e.symm (Nat.zero_le _) (Nat.zero_le _)
section XD
variable {p : Program} {l : Launch} {e : Env} {R : Room} {s : State} {m : MethodId} {args : Array Value} {below : List Frame} {meth : Method} {c : Code} {G : gG} {A : Nat → Prop} {nL : Nat} {Q : State → Prop} {cells slots : Nat} {sh : List gC} {q : Nat → Nat} {μ : gM} {ν : gN} {lv : List (Nat × Value)} {st st' : List Value} {pc : Nat}
variable {cc : ByteArray} {own : String} {Ts : List Cond}
variable {y : MethodName} {wsy : List Cond} {rm : Room} {index n maxL : Nat} {bytes : ByteArray} {ret : Option FieldType}
theorem x_callD (C : xC p s m args meth c G A nL cc own Ts) (hq : gD A q sh.length) {b L : Nat} {xs : Nat → Int32} (hX : va_X b L xs s s.heap) (hb : b < s.heap.size) (hbA : ¬ A b) {r : Int32} {av : List Value} (hM : gMdr l y wsy rm G b L xs (g_sel [] q) (g_sel [] μ) (g_sel [] ν) av r) (cw : CallB R s args own index y bytes maxL ret wsy rm 0 0 n ∧ (Cond.static y).before args s = true) (hn : av.length = n) (hst : st = av.reverse ++ st') (hsum : (st'.map fun v => v.category).sum ≤ 8) (hdg : decode cc pc = .ok (.invokestatic index, 3)) (hc : cells ≤ R.cells) (hs : slots ≤ R.slots) (K : xJ p l e R s m args below meth c G A nL Q cells slots sh q μ ν lv (.int r :: st') (pc + 3)) : xJ p l e R s m args below meth c G A nL Q cells slots sh q μ ν lv st pc := by
  have hF : gFr G sh q μ ν sh0 (g_sel [] q) (g_sel [] μ) (g_sel [] ν) (g_sel [] μ) (g_sel [] ν) μ ν := gFr_pure ⟨List.nodup_nil, rfl⟩
  intro H locs ls hP hS hl
  subst hst
  have h0 := g_preS C hq hF hP av
  have hpre : PreS s H (gPd G b L xs (g_sel [] q) (g_sel [] μ) (g_sel [] ν) H.size av) av := ⟨g_blindd, fun U hU hW => ⟨h0.2 U hU hW, by rw [hU]; exact Nat.lt_of_lt_of_le hb hS.1, by rw [hU]; exact va_X.moved hW.alike (hX.kept (hS.2.1 b hb hbA))⟩⟩
  exact va_calli (va_runS (As := av) (rest := st') ⟨C.1, C.2.1, C.2.2.2.1, C.2.2.2.2.1, C.2.2.2.2.2.1⟩ (hM H.size) cw hpre rfl hn hl.1 rfl (lv_room hsum) hdg ⟨hc, hs⟩) hS (fun a _ h => g_frA C hq hF hS a h) (g_frA C hq hF hS) (fun r' u t H1 locs1 ht hvm hw hB hz hk hS1 => by
    have hw : r' = r := hw
    subst hw
    have hB : va_P G.1 vwCl (wd G (g_sel [] q) (g_sel [] μ) (g_sel [] ν) 0 sh0) t.heap := hB
    rw [ht] at hB
    exact K H1 locs1 ls (hF.2.2.2 H H1 hq.1 hP hB hk) hS1 hl)
end XD
