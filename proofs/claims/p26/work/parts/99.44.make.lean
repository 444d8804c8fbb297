/-! a new object, made where there is nothing else -/
theorem mem_r {big ws : List Cond} (ps : List Nat) (hp : ws = ps.filterMap (fun i => big[i]?)) : ∀ w ∈ ws, w ∈ big := fun w hw => by
  rw [hp] at hw
  obtain ⟨i, _, hi⟩ := List.mem_filterMap.mp hw
  exact List.mem_of_getElem? hi
def lwN : List Cond := [Cond.classLink RL 10 RX2, Cond.instantiable RX2 7, Cond.initialized RX2, Cond.methodLink RL 100 yX2_init, Cond.instanceMethod yX2_init]
theorem hfs_X2 : ∀ j, j < 7 → defaultValue (tyX2 j) = vp_V (g_flds (fun _ => 0) (fun _ => 0) (fun _ => 0) 0 [.inr none, .inr none, .inr none, .inr (some false), .inr none, .inr (some false), .inr none]) j := fun j hj => by
  rcases (show j = 0 ∨ j = 1 ∨ j = 2 ∨ j = 3 ∨ j = 4 ∨ j = 5 ∨ j = 6 by omega) with rfl | rfl | rfl | rfl | rfl | rfl | rfl <;> rfl
theorem g_app_0 {α : Type} (f g : Nat → α) : g_app 0 f g = g := by funext k; exact if_neg (Nat.not_lt_zero k)
set_option maxRecDepth 20000 in
theorem shf0_shH : shH = [] ++ shH.map (g_shf 0) := rfl
set_option maxHeartbeats 4000000 in
set_option maxRecDepth 20000 in
theorem x_newH {p : Program} {l : Launch} {e : Env} {R : Room} {s : State} {m9 : MethodId} {args : Array Value} {below : List Frame} {meth : Method} {c : Code} {G : gG} {A : Nat → Prop} {Q : State → Prop} {nL : Nat} {cc : ByteArray} {Ts : List Cond} (C : xC p s m9 args meth c G A nL cc RL Ts) (kn : ∀ w ∈ lwN, w ∈ Ts) (kx : ∀ w ∈ wsX20, w ∈ Ts) (kg : GoodIn Ts wsX2_init) (hRf : 9 ≤ R.frames) (hRl : 240 ≤ R.locals) (hE : gE s) {q : Nat → Nat} {μ : gM} {ν : gN} {lv : List (Nat × Value)} {pc cells slots cells' slots' : Nat} (hq : gD A q ([] : List gC).length) (d0 : decode cc pc = .ok (.new 10, 3)) (d1 : decode cc (pc + 3) = .ok (.dup, 1)) (d2 : decode cc (pc + 4) = .ok (.invokespecial 100, 3)) (e1 : cells + 132 = cells') (e2 : slots + 3197 = slots') (hRc : cells' ≤ R.cells) (hRs : slots' ≤ R.slots)
    (K : ∀ (q1 : Nat → Nat) (mh : gM) (nh : gN), hQ 0 4 mh row0 → mh 0 3 = 0 → mh 0 5 = 0 → gD A q1 shH.length → xJ p l e R s m9 args below meth c G A nL Q cells' slots' shH q1 mh nh lv [.ref (q1 0)] (pc + 7)) :
    xJ p l e R s m9 args below meth c G A nL Q cells slots [] q μ ν lv [] pc := by
  subst e1; subst e2
  refine x_newo (sh := []) (sh' := shnH) (L := 0) (ci := 2) (CN := RX2) (T := TX2) (N := 7) (fds := [.inr none, .inr none, .inr none, .inr (some false), .inr none, .inr (some false), .inr none]) C hq rfl tyX2 tyX2_ok kx (kn _ (by simp [lwN])) (kn _ (by simp [lwN])) (kn _ (by simp [lwN])) rfl hfs_X2 rfl (by omega) (by omega) d0 rfl rfl (fun q1 e1 hq1 => ?_)
  refine x_dup C d1 rfl ?_
  obtain ⟨m1, hm1⟩ : ∃ y : gM, y = fun _ => (g_set μ 0 (fun _ => 0)) 0 := ⟨_, rfl⟩
  obtain ⟨h1, hh1⟩ : ∃ y : gN, y = fun _ => (g_setN ν 0 (fun _ => 0)) 0 := ⟨_, rfl⟩
  have c1 : gMe l yX2_init wsX2_init rm_h_init G shnH (fun _ => q1 0) (fun _ => (g_set μ 0 (fun _ => 0)) 0) (fun _ => (g_setN ν 0 (fun _ => 0)) 0) [.ref (q1 0)] shH (f_h_init m1 h1).1 (f_h_init m1 h1).2 131 3190 := by
    rw [← hm1, ← hh1]; exact c_h_init l G (fun _ => q1 0) m1 h1 (o_h_init_ok m1 h1)
  refine x_callIe (st' := [.ref (q1 0)]) (sh0 := []) (sh := shnH) (sh' := shH) (d0 := .inr (.inl (2, [.inr none, .inr none, .inr none, .inr (some false), .inr none, .inr (some false), .inr none]))) (L := 0) C hq1 rfl rfl rfl rfl hE c1 (cwI 0 C.2.2.2.2.2.1 kg rfl rfl rfl (C.2.2.2.2.2.1 (Cond.initialized RX2) (kn _ (by simp [lwN]))) (C.2.2.2.2.2.1 (Cond.methodLink RL 100 yX2_init) (kn _ (by simp [lwN]))) (C.2.2.2.2.2.1 (Cond.instanceMethod yX2_init) (kn _ (by simp [lwN]))) rfl (by decide +kernel) ⟨Nat.le_trans (by decide) hRf, Nat.le_trans (Nat.le_of_ble_eq_true rfl) hRl⟩) rfl (Nat.le_of_ble_eq_true rfl) d2 (by omega) (by omega) shf0_shH (fun q2 e2 hq2 => ?_)
  refine x_mu2 (μ2 := (f_h_init m1 h1).1) (ν2 := (f_h_init m1 h1).2) (g_app_0 _ _).symm (g_app_0 _ _).symm ?_
  refine x_stk (st' := [.ref (q2 0)]) (by rw [e2 0 (by decide)]) ?_
  obtain ⟨k1, k2, k3⟩ := hQ_fresh (mh := (f_h_init m1 h1).1) (m1 := m1) (h1 := h1) (fun _ _ => rfl)
  exact K q2 _ _ k1 k2 k3 hq2
