/-! the law's loop: the script, one long cell, calls on the class's picture in front of the reference's -/
theorem g_app_lo {α : Type} {L i : Nat} (f g : Nat → α) (h : i < L) : g_app L f g i = f i := if_pos h
theorem g_app_hi {α : Type} {L : Nat} (f g : Nat → α) (i : Nat) : g_app L f g (i + L) = g i := by
  unfold g_app; rw [if_neg (by omega), Nat.add_sub_cancel]
theorem gFr_suf {G : gG} {sh0 shm : List gC} {q : Nat → Nat} {μ1 μ2 μr : gM} {ν1 ν2 νr : gN} {L : Nat} (hL : sh0.length = L) : gFr G (sh0 ++ shm.map (g_shf L)) q (g_app L μ1 μ2) (g_app L ν1 ν2) shm (fun k => q (k + L)) μ2 ν2 μr νr (g_app L μ1 μr) (g_app L ν1 νr) := by
  have hlen : (sh0 ++ shm.map (g_shf L)).length = L + shm.length := by rw [List.length_append, List.length_map, hL]
  have hat : ∀ {k : Nat} {d : gC}, shm[k]? = some d → (sh0 ++ shm.map (g_shf L))[k + L]? = some (g_shf L d) := fun {k d} h => by
    rw [List.getElem?_append_right (by omega), hL, Nat.add_sub_cancel, List.getElem?_map, h]; rfl
  refine ⟨fun H hP => ?_, fun hi i j hii hjj hxy => ?_, fun k hk => ?_, fun H H1 hi hP hP1 hk => ?_⟩
  · intro k z hz
    obtain ⟨d, hd, rfl⟩ := wd_of hz
    have h3 := hP (k + L) _ (wd_at (hat hd))
    rw [g_cell_shf (q1 := fun k => q (k + L)) (μ1 := μ2) (ν1 := ν2) (f := fun _ => 0) (h := fun _ => 0) (fun _ => rfl) (g_app_hi μ1 μ2 k) (g_app_hi ν1 ν2 k)] at h3
    exact h3
  · have := hi (i + L) (j + L) (by omega) (by omega) hxy
    omega
  · exact ⟨k + L, by omega, rfl⟩
  · intro k z hz
    obtain ⟨d, hd, rfl⟩ := wd_of hz
    by_cases h9 : k < L
    · have h3 := hP k _ (wd_at hd)
      rw [g_cell_cong (μ := g_app L μ1 μ2) (ν := g_app L ν1 ν2) ((g_app_lo μ1 μr h9).trans (g_app_lo μ1 μ2 h9).symm) ((g_app_lo ν1 νr h9).trans (g_app_lo ν1 ν2 h9).symm)]
      refine h3.kept (hk (q k) h3.lt ?_)
      rintro (⟨j, hj, hqj⟩ | hge)
      · have := hi k (j + L) (g_lt hd) (by omega) hqj
        omega
      · exact absurd h3.lt (Nat.not_lt.mpr hge)
    · obtain ⟨j, rfl⟩ : ∃ j, k = j + L := ⟨k - L, by omega⟩
      rw [List.getElem?_append_right (by omega), hL, Nat.add_sub_cancel, List.getElem?_map] at hd
      cases hd9 : shm[j]? with
      | none => rw [hd9] at hd; cases hd
      | some d1 =>
        rw [hd9] at hd
        have hdd : d = g_shf L d1 := (Option.some.inj hd).symm
        subst hdd
        have h2 := hP1 j _ (wd_at hd9)
        rw [g_cell_shf (q1 := fun k => q (k + L)) (μ1 := μr) (ν1 := νr) (f := fun _ => 0) (h := fun _ => 0) (fun _ => rfl) (g_app_hi μ1 μr j) (g_app_hi ν1 νr j)]
        exact h2
theorem g_lng_cell {G : gG} {q : Nat → Nat} {μ μ' : gM} {ν ν' : gN} {k : Nat} {d : gC} (h : g_lng d = true) (h2 : ν' k = ν k) : g_cell G q μ' ν' k d = g_cell G q μ ν k d := by
  rcases d with n | (o | (ids | n))
  · exact absurd h (by simp [g_lng])
  · exact absurd h (by simp [g_lng])
  · exact absurd h (by simp [g_lng])
  · simp only [g_cell, h2]
theorem gFr_pre {G : gG} {shc rest : List gC} {q : Nat → Nat} {μ1 μ2 μr : gM} {ν1 ν2 : gN} {L : Nat} (hn : shc.length ≤ L) (hlong : ∀ k d, shc.length ≤ k → k < L → (shc ++ rest)[k]? = some d → g_lng d = true) : gFr G (shc ++ rest) q (g_app L μ1 μ2) (g_app L ν1 ν2) shc q μ1 ν1 μr ν1 (g_app L μr μ2) (g_app L ν1 ν2) := by
  have hlen : (shc ++ rest).length = shc.length + rest.length := List.length_append
  refine ⟨fun H hP => ?_, fun hi i j hii hjj hxy => ?_, fun k hk => ?_, fun H H1 hi hP hP1 hk => ?_⟩
  · intro k z hz
    obtain ⟨d, hd, rfl⟩ := wd_of hz
    have hk := g_lt hd
    have h3 := hP k _ (wd_at (by rw [List.getElem?_append_left hk]; exact hd))
    rw [g_cell_cong (μ := μ1) (ν := ν1) (g_app_lo μ1 μ2 (by omega)) (g_app_lo ν1 ν2 (by omega))] at h3
    exact h3
  · exact hi i j (by omega) (by omega) hxy
  · exact ⟨k, by omega, rfl⟩
  · intro k z hz
    obtain ⟨d, hd, rfl⟩ := wd_of hz
    by_cases h9 : k < shc.length
    · have hd' : shc[k]? = some d := by rw [List.getElem?_append_left h9] at hd; exact hd
      have h2 := hP1 k _ (wd_at hd')
      rw [g_cell_cong (μ := μr) (ν := ν1) (g_app_lo μr μ2 (by omega)) (g_app_lo ν1 ν2 (by omega))]
      exact h2
    · have h3 := hP k _ (wd_at hd)
      have e : g_cell G q (g_app L μr μ2) (g_app L ν1 ν2) k d = g_cell G q (g_app L μ1 μ2) (g_app L ν1 ν2) k d := by
        by_cases h8 : k < L
        · exact g_lng_cell (hlong k d (by omega) h8 hd) rfl
        · exact g_cell_cong (by unfold g_app; rw [if_neg h8, if_neg h8]) rfl
      rw [e]
      refine h3.kept (hk (q k) h3.lt ?_)
      rintro (⟨j, hj, hqj⟩ | hge)
      · have := hi k j (g_lt hd) (by omega) hqj
        omega
      · exact absurd h3.lt (Nat.not_lt.mpr hge)
theorem wd_backL {G : gG} {shc rest : List gC} {q q' : Nat → Nat} {μ1 μ2 μr : gM} {ν1 ν2 νr : gN} {L : Nat} {H H1 : Heap} (hL : shc.length = L) (hwf : g_wf shc = true) (hrest : ∀ d ∈ rest, ∀ j ∈ g_refs d, L ≤ j) (hq : ∀ i j, i < (shc ++ rest).length → j < (shc ++ rest).length → q i = q j → i = j) (h : va_P G.1 vwCl (wd G q (g_app L μ1 μ2) (g_app L ν1 ν2) 0 (shc ++ rest)) H) (h1 : va_P G.1 vwCl (wd G q' μr νr 0 shc) H1) (hk : ∀ a : Nat, a < H.size → ¬ gA q shc.length H.size a → H1[a]? = H[a]?) : va_P G.1 vwCl (wd G (fun k => if k < L then q' k else q k) (g_app L μr μ2) (g_app L νr ν2) 0 (shc ++ rest)) H1 := by
  subst hL
  intro k z hz
  obtain ⟨d, hd, rfl⟩ := wd_of hz
  by_cases hk9 : k < shc.length
  · have hd' : shc[k]? = some d := by rw [List.getElem?_append_left hk9] at hd; exact hd
    have h2 := h1 k _ (wd_at hd')
    rw [if_pos hk9, g_cell_q (q2 := q') (fun j hj => if_pos (g_wf_at hwf hd' j hj)), g_cell_cong (μ := μr) (ν := νr) (g_app_lo μr μ2 hk9) (g_app_lo νr ν2 hk9)]
    exact h2
  · have h2 := h k _ (wd_at hd)
    have hd' : rest[k - shc.length]? = some d := by rw [List.getElem?_append_right (Nat.not_lt.mp hk9)] at hd; exact hd
    have hm := hrest d (List.mem_of_getElem? hd')
    rw [if_neg hk9, g_cell_q (q2 := q) (fun j hj => if_neg (Nat.not_lt.mpr (hm j hj))), g_cell_cong (μ := g_app shc.length μ1 μ2) (ν := g_app shc.length ν1 ν2) (by unfold g_app; rw [if_neg hk9, if_neg hk9]) (by unfold g_app; rw [if_neg hk9, if_neg hk9])]
    refine h2.kept (hk _ h2.lt ?_)
    rintro (⟨j, hj, hqj⟩ | hge)
    · have := hq k j (g_lt hd) (by rw [List.length_append]; omega) hqj
      omega
    · exact absurd h2.lt (Nat.not_lt.mpr hge)
section XL
variable {p : Program} {l : Launch} {e : Env} {R : Room} {s : State} {m : MethodId} {args : Array Value} {below : List Frame} {meth : Method} {c : Code} {G : gG} {A : Nat → Prop} {nL : Nat} {Q : State → Prop} {cells slots : Nat} {sh sh' shc rest : List gC} {q q' : Nat → Nat} {μ μ' μ1 μ2 μr : gM} {ν ν' ν1 ν2 νr : gN} {lv lv' : List (Nat × Value)} {st st' : List Value} {pc : Nat}
variable {cc : ByteArray} {own : String} {Ts : List Cond}
theorem x_newl (C : xC p s m args meth c G A nL cc own Ts) (hq : gD A q sh.length) (hwf : g_wf sh = true) {n : Int32} {N' L : Nat} (harr : Cond.arrayClass .long ∈ Ts) (hn : ¬ n < 0) (hN : n.toNatClampNeg = N') (hbytes : N' * 8 ≤ 536870912) (hcells : cells + 1 ≤ R.cells) (hslots : slots + N' ≤ R.slots) (hdg : decode cc pc = .ok (.newarray .long, 2)) (hL : sh.length = L) (hsh : sh' = sh ++ [.inr (.inr (.inr N'))]) (K : ∀ q', (∀ k, k < L → q' k = q k) → gD A q' sh'.length → xJ p l e R s m args below meth c G A nL Q (cells + 1) (slots + N') sh' q' μ (g_setN ν L (fun _ => 0)) lv (.ref (q' L) :: st) (pc + 2)) : xJ p l e R s m args below meth c G A nL Q cells slots sh q μ ν lv (.int n :: st) pc := by
  intro H locs ls hP hS hl
  refine va_newa (D := G.1) (cl := vwCl) (tys := gT G) (atype := .long) (ty := .long) (a0 := (N', .inr (.inl (fun _ => 0)))) C.1 C.2.1 (C.2.2.2.2.2.1 _ harr) rfl C.2.2.2.2.2.2.1 hP (gD_wd hq G μ ν) hS C.2.2.2.2.2.2.2 (fun cA => rfl) hn hN hbytes hcells hslots hdg (fun a cA H1 hK1 hP1 hD1 hS1 => ?_)
  have hcA : cA = G.2.2.1 := by
    have h1 : s.vm.findClass ("[" ++ FieldType.long.toString) = some cA := (hK1.2 3 _ rfl).2
    have h2 : s.vm.findClass ("[" ++ FieldType.long.toString) = some G.2.2.1 := (hK1.2 1 _ rfl).2
    exact Option.some.inj (h1.symm.trans h2)
  subst hcA
  subst hL; subst hsh
  have e1 : ∀ k, k < sh.length → (fun k => if k = sh.length then a else q k) k = q k := fun k hk => if_neg (by omega)
  have e2 : (fun k => if k = sh.length then a else q k) sh.length = a := if_pos rfl
  have hw := wd_push (G := G) (sh := sh) (q := q) (q' := fun k => if k = sh.length then a else q k) (μ := μ) (μ' := μ) (ν := ν) (ν' := g_setN ν sh.length (fun _ => 0)) (d := .inr (.inr (.inr N'))) hwf e1 e2 (fun k hk => ⟨rfl, g_setN_n (by omega)⟩)
  have hc : g_cell G (fun k => if k = sh.length then a else q k) μ (g_setN ν sh.length (fun _ => 0)) sh.length (.inr (.inr (.inr N'))) = .inl (G.2.2.1, N', .inr (.inl (fun _ => 0))) := by
    unfold g_cell; rw [g_setN_s]
  have hst : (Value.ref a) = .ref ((fun k => if k = sh.length then a else q k) sh.length) := by rw [e2]
  rw [hst]
  exact K (fun k => if k = sh.length then a else q k) e1 (by rw [List.length_append]; exact gD_push e1 e2 hD1) H1 locs ls (by rw [hw, hc]; exact hP1) hS1 hl
theorem x_sld (C : xC p s m args meth c G A nL cc own Ts) {b L : Nat} {xs : Nat → Int32} (hX : va_X b L xs s s.heap) (hbl : b < s.heap.size) (hbA : ¬ A b) {i v : Int32} (hin : vp_in i L) (hv : xs i.toNatClampNeg = v) (hdg : decode cc pc = .ok (.iaload, 1)) (K : xJ p l e R s m args below meth c G A nL Q cells slots sh q μ ν lv (.int v :: st) (pc + 1)) : xJ p l e R s m args below meth c G A nL Q cells slots sh q μ ν lv (.int i :: .ref b :: st) pc := by
  intro H locs ls hP hS hl
  subst hv
  exact va_sld C.1 C.2.1 hX hbl hbA hS hin hdg (K H locs ls hP hS hl)
theorem x_slen (C : xC p s m args meth c G A nL cc own Ts) {b L : Nat} {xs : Nat → Int32} (hX : va_X b L xs s s.heap) (hbl : b < s.heap.size) (hbA : ¬ A b) (hdg : decode cc pc = .ok (.arraylength, 1)) (K : xJ p l e R s m args below meth c G A nL Q cells slots sh q μ ν lv (.int (Int32.ofNat L) :: st) (pc + 1)) : xJ p l e R s m args below meth c G A nL Q cells slots sh q μ ν lv (.ref b :: st) pc := by
  intro H locs ls hP hS hl
  exact va_slen C.1 C.2.1 hX hbl hbA hS hdg (K H locs ls hP hS hl)
variable {y : MethodName} {wsy : List Cond} {rm : Room} {index n maxL : Nat} {bytes : ByteArray} {ret : Option FieldType} {hh : List (Nat × Nat × Nat × Nat)}
theorem x_callLw (C : xC p s m args meth c G A nL cc own Ts) (hq : gD A q sh.length) (hsh : sh = shc ++ rest) {L : Nat} (hL : shc.length = L) (hwf : g_wf shc = true) (hrest : ∀ d ∈ rest, ∀ j ∈ g_refs d, L ≤ j) (hX : gX A s) {ks : List Nat} (hks : ∀ k ∈ ks, k < L) {r : Int32} {av : List Value} (hM : gMw l y wsy rm G shc q ks μ1 ν1 av μr νr r) (cw : vx_CSW R s args own index y bytes maxL ret hh wsy rm 1 6 n) (hn : av.length = n) (hst : st = av.reverse ++ st') (hsum : (st'.map fun v => v.category).sum ≤ 8) (hdg : decode cc pc = .ok (.invokestatic index, 3)) (hc : cells + 1 ≤ R.cells) (hs : slots + 6 ≤ R.slots)
    (K : ∀ q', (∀ k ∈ ks, q' k = q k) → (∀ k, L ≤ k → q' k = q k) → gD A q' sh.length → xJ p l e R s m args below meth c G A nL Q (cells + 1) (slots + 6) sh q' (g_app L μr μ2) (g_app L νr ν2) lv (.int r :: st') (pc + 3)) : xJ p l e R s m args below meth c G A nL Q cells slots sh q (g_app L μ1 μ2) (g_app L ν1 ν2) lv st pc := by
  intro H locs ls hP hS hl
  subst hst
  subst hsh
  have hP1 : va_P G.1 vwCl (wd G q μ1 ν1 0 shc) H := fun k z hz => by
    obtain ⟨d, hd, rfl⟩ := wd_of hz
    have hk := g_lt hd
    have h3 := hP k _ (wd_at (by rw [List.getElem?_append_left hk]; exact hd))
    rw [g_cell_cong (μ := μ1) (ν := ν1) (g_app_lo μ1 μ2 (by omega)) (g_app_lo ν1 ν2 (by omega))] at h3
    exact h3
  have hpre : PreS s H (gPx G shc q μ1 ν1 H.size av) av := ⟨g_blindx, fun U hU hW => ⟨⟨rfl, by rw [hU], by rw [hU]; exact hP1, va_K.moved hW.alike C.2.2.2.2.2.2.1, fun i j hi hj h => hq.1 i j (by rw [List.length_append]; omega) (by rw [List.length_append]; omega) h⟩, gX_to hW hU hS (g_frW C hq hS) hX⟩⟩
  exact va_calli (vx_runSW (As := av) (rest := st') ⟨C.1, C.2.1, C.2.2.2.1, C.2.2.2.2.1, C.2.2.2.2.2.1⟩ (hM H.size) cw hpre rfl hn hl.1 rfl (lv_room hsum) hdg ⟨hc, hs⟩) hS (fun a _ h => g_frW C hq hS a h) (g_frW C hq hS) (fun r' q' t H1 locs1 ht hvm hw hB hz hk hS1 => by
    have hw1 : r' = r := hw.1
    subst hw1
    have hB : va_P G.1 vwCl (wd G q' μr νr 0 shc) t.heap := hB
    rw [ht] at hB
    have hd := g_dW C hq hP hS hw.2.2
    rw [hL] at hd
    refine K (fun k => if k < L then q' k else q k) (fun k hk9 => ?_) (fun k hk9 => if_neg (Nat.not_lt.mpr hk9)) hd H1 locs1 ls (wd_backL hL hwf hrest hq.1 hP hB hk) hS1 hl
    show (if k < L then q' k else q k) = q k
    rw [if_pos (hks k hk9)]
    exact hw.2.1 k hk9)
end XL
