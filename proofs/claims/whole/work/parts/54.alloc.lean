/-! making things -/
def ta_PreA (D : va_G) (k : ta_C) (As : List Value) (Wc : va_W) (sz : Nat) : Array Value → State → Prop := va_Pc As (fun U => (U.heap.size = sz ∧ va_P D vwCl Wc U.heap ∧ ta_E D k (va_A Wc sz) U U.heap ∧ va_D (fun _ => True) Wc) ∧ va_AO "TwoArmies$Drill" U ∧ va_AO "TwoArmies$Day" U)
/-- a constructor: so many cells and slots come -/
def ta_Ma {S : Type} (l : Launch) (D : va_G) (k : ta_C) (y : MethodName) (cc : ByteArray) (n : Nat) (fr lo mc ms : Nat) (As : List Value) (Wc : va_W) (post : S → Prop) (Wq : S → va_W) : Prop :=
  ∀ sz : Nat, Met l y (tz y cc n none) ({ frames := fr, cells := mc, slots := ms, locals := lo }) (ta_PreA D k As Wc sz) (ta_Qv D post Wq (va_A Wc sz)) mc ms (va_A Wc sz)
theorem ta_blindA (D : va_G) (k : ta_C) (As : List Value) (Wc : va_W) (sz : Nat) : FrameBlind (ta_PreA D k As Wc sz) := fun a U g mk h => ⟨h.1, ⟨h.2.1.1, h.2.1.2.1, ta_E.same (u := U) (U := U.calling g mk a) rfl h.2.1.2.2.1, h.2.1.2.2.2⟩, va_AO.moved (u := U) (U := U.calling g mk a) (Vm.Alike.refl U.vm) h.2.2.1, va_AO.moved (u := U) (U := U.calling g mk a) (Vm.Alike.refl U.vm) h.2.2.2⟩
theorem ta_enter_a {l : Launch} {D : va_G} {k : ta_C} {cc : ByteArray} {S : Type} {y : MethodName} {n fr lo mc ms : Nat} {As : List Value} {Wc : va_W} {post : S → Prop} {Wq : S → va_W} (hy : plainName y.cls = true) (hyn : y.name = "<init>") (hn : (lg_sl As).length ≤ n)
    (body : ∀ (p : Program) (e : Env) (s : State) (m : MethodId) (below : List Frame) (meth : Method) (c : Code) (A : Nat → Prop) (ls : Array Slot) (Q : State → Prop), ta_At p l D k s m As.toArray c y.cls cc n A → (va_AO "TwoArmies$Drill" s ∧ va_AO "TwoArmies$Day" s) → meth.name = "<init>" →
      (∀ (u : S) {H : Heap} {locs : List Loc} {ls : Array Slot} {pc : Nat}, decode cc pc = .ok (.return_, 1) → post u → va_P D vwCl (Wq u) H → va_D A (Wq u) → va_S A s.heap H locs → W p l e ({ frames := fr, cells := mc, slots := ms, locals := lo }) s m As.toArray below meth c H locs mc ms Q (F0 m pc ls [])) →
      va_P D vwCl Wc s.heap → va_D A Wc → va_S A s.heap s.heap [] → lv_has ls n (lv_args 0 As) →
      W p l e ({ frames := fr, cells := mc, slots := ms, locals := lo }) s m As.toArray below meth c s.heap [] 0 0 Q (F0 m 0 ls [])) : ta_Ma l D k y cc n fr lo mc ms As Wc post Wq := by
  intro sz
  refine Met.ofW (cc := cc) (maxL := n) (ret := none) hy rfl ?_
  intro p e s m args below meth c s₁ B hml hv
  obtain ⟨rfl, ⟨hsz, hP, hE, hD0⟩, hO⟩ := hv
  subst hsz
  have hts := atoms_spec (ws := tz y cc n none) B.pre
  have hown : s.vm.findClass y.cls = some m.cls := findClass_of_methodNamed B.named
  have hin : meth.name = "<init>" := (name_of_methodNamed B.named B.method).1.trans hyn
  have hl := lv_entry As (n := n) hn
  have hr := B.returns
  have hlk := B.notSynchronized
  have hx := B.exec
  have hb := B.bytes
  rw [lg_entry_eq]
  exact body p e s m below meth c (va_A Wc s.heap.size) _ _ ⟨⟨B.exec, B.bytes, hml, hown, fun w h => hts w (List.mem_cons_of_mem _ h)⟩, hE, fun q h => Or.inr h⟩ hO hin
    (fun u {H} {locs} {ls} {pc} hdg hp hP hD hS => W.vret hx hb hr (fun t ht hW => ⟨⟨u, rfl, hp, by rw [ht]; exact hP, hD⟩, hS.F ht⟩) hS.2.2 hdg hlk) hP (hD0.self (sz := s.heap.size)) va_S.rf hl
section TAL
variable {p : Program} {l : Launch} {e : Env} {R : Room} {s : State} {m : MethodId} {args : Array Value} {below : List Frame} {meth : Method} {c : Code} {H : Heap} {locs : List Loc} {cells slots : Nat} {Q : State → Prop} {cc : ByteArray} {pc : Nat} {ls : Array Slot} {rest : List Value}
variable {D : va_G} {k : ta_C} {own : String} {nL : Nat} {A : Nat → Prop} {ws : va_W} {a : Nat}
theorem ta_putF (C : ta_At p l D k s m args c own cc nL A) (hI : meth.name = "<init>") (hP : va_P D vwCl ws H) (hD : va_D A ws) (hS : va_S A s.heap H locs) (q0 : Nat) {Cl : String} {T : u_T} {N ci index : Nat} {fs : List Value} (hin : ∀ w ∈ u_ws Cl T N, w ∈ wsL_law) (ty0 : Nat → FieldType) (hty : ∀ k, k < N → parseFieldDescriptor (T k).2.2.1 = some (ty0 k)) (hnm : ∀ a, a < N → ∀ b, b < N → a ≠ b → (T a).2.1 ≠ (T b).2.1) (he : ws[q0]? = some (a, .inr (ci, fs))) (hc : vwCl[ci]? = some (Cl, T, N)) (j : Nat) (hk : j < N) (hlink : Cond.fieldLink own index (T j).1 (T j).2.1 (T j).2.2.1 ∈ wsL_law) (hfin : (T j).2.2.2 = true) (hdecl : (T j).1 = own) {v : Value} (hn : narrow (ty0 j) v = v) (hfit : fits (ty0 j) v = true) (hl : j < fs.length) (hdg : decode cc pc = .ok (.putfield index, 3)) (kk : ∀ (H1 : Heap) (locs1 : List Loc), va_P D vwCl (ws.set q0 (a, .inr (ci, fs.set j v))) H1 → va_D A (ws.set q0 (a, .inr (ci, fs.set j v))) → va_S A s.heap H1 locs1 → W p l e R s m args below meth c H1 locs1 cells slots Q (F0 m (pc + 3) ls rest)) : W p l e R s m args below meth c H locs cells slots Q (F0 m pc ls (v :: .ref a :: rest)) := va_putF C.1.1 C.1.2.1 C.1.2.2.2.2 hin ty0 hty hnm C.1.2.2.2.1 C.2.1.1 hP hD hS q0 he hc j hk (C.1.2.2.2.2 _ hlink) (fun _ h => h) hfin hI hdecl (hty j hk) hn hfit hl hdg kk
theorem ta_newo (C : ta_At p l D k s m args c own cc nL A) (hP : va_P D vwCl ws H) (hD : va_D A ws) (hS : va_S A s.heap H locs) {Cl : String} {T : u_T} {N ci index : Nat} (hin : ∀ w ∈ u_ws Cl T N, w ∈ wsL_law) (ty0 : Nat → FieldType) (hty : ∀ k, k < N → parseFieldDescriptor (T k).2.2.1 = some (ty0 k)) (hcl : Cond.classLink own index Cl ∈ wsL_law) (hinst : Cond.instantiable Cl N ∈ wsL_law) (hini : Cond.initialized Cl ∈ wsL_law) (hc : vwCl[ci]? = some (Cl, T, N)) {fs : List Value} (hfs : ∀ j, j < N → defaultValue (ty0 j) = vp_V fs j) (hcells : cells + 1 ≤ R.cells) (hslots : slots + N ≤ R.slots) (hdg : decode cc pc = .ok (.new index, 3))
    (kk : ∀ (q : Nat) (H1 : Heap), va_P D vwCl (ws ++ [(q, .inr (ci, fs))]) H1 → va_D A (ws ++ [(q, .inr (ci, fs))]) → va_S A s.heap H1 locs → W p l e R s m args below meth c H1 locs (cells + 1) (slots + N) Q (F0 m (pc + 3) ls (.ref q :: rest))) : W p l e R s m args below meth c H locs cells slots Q (F0 m pc ls rest) := va_new C.1.1 C.1.2.1 C.1.2.2.2.2 hin ty0 hty C.1.2.2.2.1 (C.1.2.2.2.2 _ hcl) (C.1.2.2.2.2 _ hinst) (C.1.2.2.2.2 _ hini) C.2.1.1 hP hD hS C.2.2 hc hfs hcells hslots hdg kk
theorem ta_newi (C : ta_At p l D k s m args c own cc nL A) (hP : va_P D vwCl ws H) (hD : va_D A ws) (hS : va_S A s.heap H locs) {n : Nat} (hn : n ≤ 1000) (hcells : cells + 1 ≤ R.cells) (hslots : slots + n ≤ R.slots) (hdg : decode cc pc = .ok (.newarray .int, 2))
    (kk : ∀ (q : Nat) (H1 : Heap), va_P D vwCl (ws ++ [(q, .inl (k.1 0, n, .inl (ta_e (fun _ => 0))))]) H1 → va_D A (ws ++ [(q, .inl (k.1 0, n, .inl (ta_e (fun _ => 0))))]) → va_S A s.heap H1 locs → W p l e R s m args below meth c H1 locs (cells + 1) (slots + n) Q (F0 m (pc + 2) ls (.ref q :: rest))) : W p l e R s m args below meth c H locs cells slots Q (F0 m pc ls (.int (nI n) :: rest)) := by
  refine va_newa (atype := .int) (ty := .int) C.1.1 C.1.2.1 (C.1.2.2.2.2 _ tw_43) rfl C.2.1.1 hP hD hS C.2.2 (N' := n) (a0 := (n, .inl (ta_e (fun _ => 0)))) (fun cA => rfl) (nI_pos (by omega)) (nI_clamp (by omega)) (show n * 4 ≤ 536870912 by omega) hcells hslots hdg (fun q cA H1 hK hP hD hS => ?_)
  have e : cA = k.1 0 := Option.some.inj ((hK.2 4 (cA, .int) rfl).2.symm.trans (hK.2 0 (k.1 0, .int) rfl).2)
  rw [e] at hP hD
  exact kk q H1 hP hD hS
theorem ta_newz (C : ta_At p l D k s m args c own cc nL A) (hP : va_P D vwCl ws H) (hD : va_D A ws) (hS : va_S A s.heap H locs) {n : Nat} (hn : n ≤ 1000) (hcells : cells + 1 ≤ R.cells) (hslots : slots + n ≤ R.slots) (hdg : decode cc pc = .ok (.newarray .boolean, 2))
    (kk : ∀ (q : Nat) (H1 : Heap), va_P D vwCl (ws ++ [(q, .inl (k.1 1, n, .inl (ta_e (fun _ => 0))))]) H1 → va_D A (ws ++ [(q, .inl (k.1 1, n, .inl (ta_e (fun _ => 0))))]) → va_S A s.heap H1 locs → W p l e R s m args below meth c H1 locs (cells + 1) (slots + n) Q (F0 m (pc + 2) ls (.ref q :: rest))) : W p l e R s m args below meth c H locs cells slots Q (F0 m pc ls (.int (nI n) :: rest)) := by
  refine va_newa (atype := .boolean) (ty := .boolean) C.1.1 C.1.2.1 (C.1.2.2.2.2 _ tw_34) rfl C.2.1.1 hP hD hS C.2.2 (N' := n) (a0 := (n, .inl (ta_e (fun _ => 0)))) (fun cA => rfl) (nI_pos (by omega)) (nI_clamp (by omega)) (show n * 1 ≤ 536870912 by omega) hcells hslots hdg (fun q cA H1 hK hP hD hS => ?_)
  have e : cA = k.1 1 := Option.some.inj ((hK.2 4 (cA, .boolean) rfl).2.symm.trans (hK.2 1 (k.1 1, .boolean) rfl).2)
  rw [e] at hP hD
  exact kk q H1 hP hD hS
theorem ta_newqR (C : ta_At p l D k s m args c own cc nL A) (hO : va_AO "TwoArmies$Drill" s ∧ va_AO "TwoArmies$Day" s) (hP : va_P D vwCl ws H) (hD : va_D A ws) (hS : va_S A s.heap H locs) {n index : Nat} (hn : n ≤ 1000) (hcl : Cond.classLink own index "TwoArmies$Drill" ∈ wsL_law) (hcells : cells + 1 ≤ R.cells) (hslots : slots + n ≤ R.slots) (hdg : decode cc pc = .ok (.anewarray index, 3))
    (kk : ∀ (q : Nat) (H1 : Heap), va_P D vwCl (ws ++ [(q, .inl (k.1 2, n, .inr (.inr (.inr (.inr (fun _ => none))))))]) H1 → va_D A (ws ++ [(q, .inl (k.1 2, n, .inr (.inr (.inr (.inr (fun _ => none))))))]) → va_S A s.heap H1 locs → W p l e R s m args below meth c H1 locs (cells + 1) (slots + n) Q (F0 m (pc + 3) ls (.ref q :: rest))) : W p l e R s m args below meth c H locs cells slots Q (F0 m pc ls (.int (nI n) :: rest)) := by
  refine va_newq C.1.1 C.1.2.1 C.1.2.2.2.1 (C.1.2.2.2.2 _ hcl) hO.1 C.2.1.1 hP hD hS C.2.2 (N' := n) (nI_pos (by omega)) (nI_clamp (by omega)) (by omega) hcells hslots hdg (fun q cA H1 hK hP hD hS => ?_)
  obtain ⟨_, _, _, _, _, e1⟩ := (hK.2 4 (cA, .object "TwoArmies$Drill") rfl).2
  obtain ⟨_, _, _, _, _, e2⟩ := (hK.2 2 (k.1 2, .object "TwoArmies$Drill") rfl).2
  have e : cA = k.1 2 := Option.some.inj (e1.symm.trans e2)
  rw [e] at hP hD
  exact kk q H1 hP hD hS
theorem ta_newqD (C : ta_At p l D k s m args c own cc nL A) (hO : va_AO "TwoArmies$Drill" s ∧ va_AO "TwoArmies$Day" s) (hP : va_P D vwCl ws H) (hD : va_D A ws) (hS : va_S A s.heap H locs) {n index : Nat} (hn : n ≤ 1000) (hcl : Cond.classLink own index "TwoArmies$Day" ∈ wsL_law) (hcells : cells + 1 ≤ R.cells) (hslots : slots + n ≤ R.slots) (hdg : decode cc pc = .ok (.anewarray index, 3))
    (kk : ∀ (q : Nat) (H1 : Heap), va_P D vwCl (ws ++ [(q, .inl (k.1 3, n, .inr (.inr (.inr (.inr (fun _ => none))))))]) H1 → va_D A (ws ++ [(q, .inl (k.1 3, n, .inr (.inr (.inr (.inr (fun _ => none))))))]) → va_S A s.heap H1 locs → W p l e R s m args below meth c H1 locs (cells + 1) (slots + n) Q (F0 m (pc + 3) ls (.ref q :: rest))) : W p l e R s m args below meth c H locs cells slots Q (F0 m pc ls (.int (nI n) :: rest)) := by
  refine va_newq C.1.1 C.1.2.1 C.1.2.2.2.1 (C.1.2.2.2.2 _ hcl) hO.2 C.2.1.1 hP hD hS C.2.2 (N' := n) (nI_pos (by omega)) (nI_clamp (by omega)) (by omega) hcells hslots hdg (fun q cA H1 hK hP hD hS => ?_)
  obtain ⟨_, _, _, _, _, e1⟩ := (hK.2 4 (cA, .object "TwoArmies$Day") rfl).2
  obtain ⟨_, _, _, _, _, e2⟩ := (hK.2 3 (k.1 3, .object "TwoArmies$Day") rfl).2
  have e : cA = k.1 3 := Option.some.inj (e1.symm.trans e2)
  rw [e] at hP hD
  exact kk q H1 hP hD hS
theorem ta_callI {S : Type} {y : MethodName} {bytes : ByteArray} {maxL index fr lo mc ms : Nat} {As rest0 st0 : List Value} {Wc Wr : va_W} {Wq : S → va_W} {b : Nat} {post : S → Prop} (C : ta_At p l D k s m args c own cc nL A) (hO : va_AO "TwoArmies$Drill" s ∧ va_AO "TwoArmies$Day" s) (hP : va_P D vwCl ws H) (hD : va_D A ws) (hS : va_S A s.heap H locs) (hM : ta_Ma l D k y bytes maxL fr lo mc ms (.ref b :: As) Wc post Wq) (isC isR : List Nat) (hC : isC.map (fun i => ws[i]?) = Wc.map some) (hR : isR.map (fun i => ws[i]?) = Wr.map some) (hnC : va_nd isC = true) (hn : va_nd isR = true) (hdis : ∀ i ∈ isR, i ∉ isC) (hcode : Cond.code y bytes maxL none ∈ wsL_law) (hl : Cond.methodLink own index y ∈ wsL_law) (hini : Cond.initialized y.cls ∈ wsL_law) (hin : Cond.instanceMethod y ∈ wsL_law) (hy : y.name = "<init>") (hd : (y.cls ≠ "java/lang/invoke/MethodHandle" ∧ y.cls ≠ "java/lang/invoke/VarHandle" ∧ (parseMethodDescriptor y.desc).map (fun d => d.parameters.length) = some As.length)) (hroom : fr + 1 ≤ R.frames ∧ 8 + (maxL + 11) + lo ≤ R.locals) (hcs : cells + mc ≤ R.cells ∧ slots + ms ≤ R.slots) (hsz : ls.size = nL) (hst : st0 = As.reverse ++ .ref b :: rest0) (hcat : (rest0.map fun v => v.category).sum ≤ 8) (hdg : decode cc pc = .ok (.invokespecial index, 3)) (kk : ∀ (u : S) (H1 : Heap) (locs1 : List Loc), post u → va_P D vwCl (Wr ++ Wq u) H1 → va_D A (Wr ++ Wq u) → va_S A s.heap H1 locs1 → W p l e R s m args below meth c H1 locs1 (cells + mc) (slots + ms) Q (F0 m (pc + 3) ls rest0)) : W p l e R s m args below meth c H locs cells slots Q (F0 m pc ls st0) := by
  obtain ⟨⟨hx, hb, hml, hown, hts⟩, hE, hA⟩ := C
  have hPc := hP.sub isC (ws' := Wc) (ta_fm hC)
  have hDc := hD.sub isC hnC hC
  have hFc := va_free (wc := Wc) hD hS hA isC hC
  have hG : GoodIn wsL_law (tz y bytes maxL none) := fun w h => (List.mem_cons.mp h).elim (fun e => by rw [e]; exact wsL_self _ hcode) (wsL_self w)
  have hpre : ∀ U : State, U.heap = H → s.WarmedH U.vm → ta_PreA D k (.ref b :: As) Wc H.size (.ref b :: As).toArray U := fun U hU hW => ⟨rfl, ⟨by rw [hU], by rw [hU]; exact hPc, by rw [hU]; exact hE.go hS.2.1 hW hFc, hDc.weaken (fun _ _ _ _ => trivial)⟩, va_AO.moved hW.alike hO.1, va_AO.moved hW.alike hO.2⟩
  subst hst
  refine va_callv (va_runI (As := As) (rest := rest0) ⟨hx, hb, hml, hown, hts⟩ (hM H.size) ⟨callB_of As.length hts hG rfl rfl rfl (hts _ hini) (hts _ hl) hd hroom, hy, hts _ hin⟩ ⟨ta_blindA D k _ Wc _, hpre⟩ rfl rfl hsz rfl (lv_room hcat) hdg hcs) hS (fun q _ h => hFc q h) hFc (fun u t H1 locs1 ht hvm hw hB1 hz1 hk1 hS1 => ?_)
  obtain ⟨hP1, hD1⟩ := hB1
  rw [ht] at hP1
  obtain ⟨hP2, hD2⟩ := va_join (wr := Wr) hP hD isC isR hC hR hn hdis hk1 hFc hP1 hD1
  exact kk u H1 locs1 hw hP2 hD2 hS1
theorem ta_callIN {S : Type} {y : MethodName} {bytes : ByteArray} {maxL index fr lo mc ms : Nat} {As rest0 st0 : List Value} {Wc Wr : va_W} {Wq : S → va_W} {b : Nat} {post : S → Prop} (C : ta_At p l D k s m args c own cc nL A) (hO : va_AO "TwoArmies$Drill" s ∧ va_AO "TwoArmies$Day" s) (hP : va_P D vwCl ws H) (hD : va_D A ws) (hS : va_S A s.heap H locs) (hM : ta_Ma l D k y bytes maxL fr lo mc ms (.ref b :: As) Wc post Wq) (isC isR : List Nat) (hC : isC.map (fun i => ws[i]?) = Wc.map some) (hR : isR.map (fun i => ws[i]?) = Wr.map some) (hnC : va_nd isC = true) (hn : va_nd isR = true) (hdis : ∀ i ∈ isR, i ∉ isC) (hcode : Cond.code y bytes maxL none ∈ wsL_law) (nh : Nat) (hnq : ta_nm[nh]? = some (own, index, y)) (hini : Cond.initialized y.cls ∈ wsL_law) (hin : Cond.instanceMethod y ∈ wsL_law) (hy : y.name = "<init>") (hd : (y.cls ≠ "java/lang/invoke/MethodHandle" ∧ y.cls ≠ "java/lang/invoke/VarHandle" ∧ (parseMethodDescriptor y.desc).map (fun d => d.parameters.length) = some As.length)) (hroom : fr + 1 ≤ R.frames ∧ 8 + (maxL + 11) + lo ≤ R.locals) (hcs : cells + mc ≤ R.cells ∧ slots + ms ≤ R.slots) (hsz : ls.size = nL) (hst : st0 = As.reverse ++ .ref b :: rest0) (hcat : (rest0.map fun v => v.category).sum ≤ 8) (hdg : decode cc pc = .ok (.invokespecial index, 3)) (kk : ∀ (u : S) (H1 : Heap) (locs1 : List Loc), post u → va_P D vwCl (Wr ++ Wq u) H1 → va_D A (Wr ++ Wq u) → va_S A s.heap H1 locs1 → W p l e R s m args below meth c H1 locs1 (cells + mc) (slots + ms) Q (F0 m (pc + 3) ls rest0)) : W p l e R s m args below meth c H locs cells slots Q (F0 m pc ls st0) := by
  obtain ⟨⟨hx, hb, hml, hown, hts⟩, hE, hA⟩ := C
  have hPc := hP.sub isC (ws' := Wc) (ta_fm hC)
  have hDc := hD.sub isC hnC hC
  have hFc := va_free (wc := Wc) hD hS hA isC hC
  have hG : GoodIn wsL_law (tz y bytes maxL none) := fun w h => (List.mem_cons.mp h).elim (fun e => by rw [e]; exact wsL_self _ hcode) (wsL_self w)
  have hpre : ∀ U : State, U.heap = H → s.WarmedH U.vm → ta_PreA D k (.ref b :: As) Wc H.size (.ref b :: As).toArray U := fun U hU hW => ⟨rfl, ⟨by rw [hU], by rw [hU]; exact hPc, by rw [hU]; exact hE.go hS.2.1 hW hFc, hDc.weaken (fun _ _ _ _ => trivial)⟩, va_AO.moved hW.alike hO.1, va_AO.moved hW.alike hO.2⟩
  subst hst
  refine va_callv (va_runIN (As := As) (rest := rest0) ⟨hx, hb, hml, hown, hts⟩ (hM H.size) ⟨va_cnB As.length hts hG rfl rfl rfl (hE.2.1.2 _ (List.mem_of_getElem? hnq)) (hts _ hini) hd hroom, hy, hts _ hin⟩ ⟨ta_blindA D k _ Wc _, hpre⟩ rfl rfl hsz rfl (lv_room hcat) hdg hcs) hS (fun q _ h => hFc q h) hFc (fun u t H1 locs1 ht hvm hw hB1 hz1 hk1 hS1 => ?_)
  obtain ⟨hP1, hD1⟩ := hB1
  rw [ht] at hP1
  obtain ⟨hP2, hD2⟩ := va_join (wr := Wr) hP hD isC isR hC hR hn hdis hk1 hFc hP1 hD1
  exact kk u H1 locs1 hw hP2 hD2 hS1
end TAL
def ta_h (h : Nat) (u : Nat → Nat) : Nat → Nat := fun i => match i with
  | 0 => h
  | i + 1 => u (i + 1)
def ta_l (l : List Nat) : Nat → Nat := fun i => l.getD i 0
abbrev ta_z1 : Nat → Nat := fun _ => 0
abbrev ta_z2 : Nat → Nat → Nat := fun _ _ => 0
set_option maxHeartbeats 4000000 in
set_option maxRecDepth 100000 in
theorem c_X1_init (l : Launch) (D : va_G) (k : ta_C) (h : Nat) : ta_Ma (S := Nat → Nat) l D k yX1_init cX1_init 1 1 20 2 16 [.ref h] [(h, .inr (1, [.null, .null, .int (nI 0)]))] (fun _ => True) (fun u => [(h, .inr (1, [.ref (ta_h h u 1), .ref (ta_h h u 2), .int (nI 0)])), (ta_h h u 1, .inl (k.1 0, 8, .inl (ta_e (fun _ => 0)))), (ta_h h u 2, .inl (k.1 0, 8, .inl (ta_e (fun _ => 0))))]) := by
  refine ta_enter_a (by decide) rfl (Nat.le_of_ble_eq_true rfl) ?_
  intro p e s m below meth c A ls Q C hO hI ret hP hD hS hl
  have C : ta_At p l D k s m ([.ref h] : List Value).toArray c RX1 cX1_init 1 A := C
  have hx := C.1.1
  have hb := C.1.2.1
  have hl : lv_has ls 1 [(0, .ref h)] := hl
  obtain ⟨H, hH⟩ : ∃ H, H = s.heap := ⟨_, rfl⟩
  obtain ⟨locs, hlocs⟩ : ∃ q : List Loc, q = [] := ⟨_, rfl⟩
  have hP : va_P D vwCl [(h, .inr (1, [.null, .null, .int (nI 0)]))] H := by rw [hH]; exact hP
  have hS : va_S A s.heap H locs := by rw [hH, hlocs]; exact hS
  rw [← hlocs]
  suffices hgoal : W p l e ({ frames := 1, cells := 2, slots := 16, locals := 20 }) s m ([.ref h] : List Value).toArray below meth c H locs 0 0 Q (F0 m 0 ls []) by rw [hH] at hgoal; exact hgoal
  clear hH hlocs
  refine lv_aload_n hx hb dX1_init_0 rfl (lv_at hl 0 rfl) ?_
  refine W.objInit hx hb C.1.2.2.2.1 (C.1.2.2.2.2 _ tw_60) (C.1.2.2.2.2 _ tw_10) (C.1.2.2.2.2 _ tw_11) rfl (by rw [C.1.2.2.1]; exact hl.1) rfl dX1_init_1 (Nat.le_of_ble_eq_true rfl) (Nat.le_of_ble_eq_true rfl) ?_
  refine W.eq (g2 := F0 m 4 ls []) rfl ?_
  refine lv_aload_n hx hb dX1_init_4 rfl (lv_at hl 0 rfl) ?_
  refine ta_bipush C 8 dX1_init_5 (by decide) ?_
  refine ta_newi C hP hD hS (n := 8) (by decide) (Nat.le_of_ble_eq_true rfl) (Nat.le_of_ble_eq_true rfl) dX1_init_7 (fun q1 H hP hD hS => ?_)
  have hP : va_P D vwCl [(h, .inr (1, [.null, .null, .int (nI 0)])), (q1, .inl (k.1 0, 8, .inl (ta_e (fun _ => 0))))] H := hP
  have hD : va_D A [(h, .inr (1, [.null, .null, .int (nI 0)])), (q1, .inl (k.1 0, 8, .inl (ta_e (fun _ => 0))))] := hD
  refine ta_putF C hI hP hD hS 0 inlX1 tyX1 tyX1_ok nmX1 rfl rfl 0 (by decide) tw_61 rfl rfl rfl rfl (Nat.le_of_ble_eq_true rfl) dX1_init_9 (fun H locs hP hD hS => ?_)
  have hP : va_P D vwCl [(h, .inr (1, [.ref q1, .null, .int (nI 0)])), (q1, .inl (k.1 0, 8, .inl (ta_e (fun _ => 0))))] H := hP
  have hD : va_D A [(h, .inr (1, [.ref q1, .null, .int (nI 0)])), (q1, .inl (k.1 0, 8, .inl (ta_e (fun _ => 0))))] := hD
  refine lv_aload_n hx hb dX1_init_12 rfl (lv_at hl 0 rfl) ?_
  refine ta_bipush C 8 dX1_init_13 (by decide) ?_
  refine ta_newi C hP hD hS (n := 8) (by decide) (Nat.le_of_ble_eq_true rfl) (Nat.le_of_ble_eq_true rfl) dX1_init_15 (fun q2 H hP hD hS => ?_)
  have hP : va_P D vwCl [(h, .inr (1, [.ref q1, .null, .int (nI 0)])), (q1, .inl (k.1 0, 8, .inl (ta_e (fun _ => 0)))), (q2, .inl (k.1 0, 8, .inl (ta_e (fun _ => 0))))] H := hP
  have hD : va_D A [(h, .inr (1, [.ref q1, .null, .int (nI 0)])), (q1, .inl (k.1 0, 8, .inl (ta_e (fun _ => 0)))), (q2, .inl (k.1 0, 8, .inl (ta_e (fun _ => 0))))] := hD
  refine ta_putF C hI hP hD hS 0 inlX1 tyX1 tyX1_ok nmX1 rfl rfl 1 (by decide) tw_62 rfl rfl rfl rfl (Nat.le_of_ble_eq_true rfl) dX1_init_17 (fun H locs hP hD hS => ?_)
  have hP : va_P D vwCl [(h, .inr (1, [.ref q1, .ref q2, .int (nI 0)])), (q1, .inl (k.1 0, 8, .inl (ta_e (fun _ => 0)))), (q2, .inl (k.1 0, 8, .inl (ta_e (fun _ => 0))))] H := hP
  have hD : va_D A [(h, .inr (1, [.ref q1, .ref q2, .int (nI 0)])), (q1, .inl (k.1 0, 8, .inl (ta_e (fun _ => 0)))), (q2, .inl (k.1 0, 8, .inl (ta_e (fun _ => 0))))] := hD
  refine lv_aload_n hx hb dX1_init_20 rfl (lv_at hl 0 rfl) ?_
  refine ta_iconst C 0 dX1_init_21 (by decide) ?_
  refine ta_put C hP hD hS 0 inlX1 tyX1 tyX1_ok nmX1 rfl rfl 2 (by decide) tw_63 rfl rfl rfl (Nat.le_of_ble_eq_true rfl) dX1_init_22 (fun H locs hP hD hS => ?_)
  have hP : va_P D vwCl [(h, .inr (1, [.ref q1, .ref q2, .int (nI 0)])), (q1, .inl (k.1 0, 8, .inl (ta_e (fun _ => 0)))), (q2, .inl (k.1 0, 8, .inl (ta_e (fun _ => 0))))] H := hP
  have hD : va_D A [(h, .inr (1, [.ref q1, .ref q2, .int (nI 0)])), (q1, .inl (k.1 0, 8, .inl (ta_e (fun _ => 0)))), (q2, .inl (k.1 0, 8, .inl (ta_e (fun _ => 0))))] := hD
  exact ret (ta_l [0, q1, q2]) dX1_init_25 trivial (hP.sub [0, 1, 2] rfl) (hD.sub [0, 1, 2] (by decide) rfl) hS

set_option maxHeartbeats 4000000 in
set_option maxRecDepth 100000 in
theorem c_X6_init (l : Launch) (D : va_G) (k : ta_C) (h : Nat) : ta_Ma (S := Nat → Nat) l D k yX6_init cX6_init 1 1 20 1 160 [.ref h] [(h, .inr (6, [.null, .int (nI 0)]))] (fun _ => True) (fun u => (txW k (ta_h h u) 0 ta_z1)) := by
  refine ta_enter_a (by decide) rfl (Nat.le_of_ble_eq_true rfl) ?_
  intro p e s m below meth c A ls Q C hO hI ret hP hD hS hl
  have C : ta_At p l D k s m ([.ref h] : List Value).toArray c RX6 cX6_init 1 A := C
  have hx := C.1.1
  have hb := C.1.2.1
  have hl : lv_has ls 1 [(0, .ref h)] := hl
  obtain ⟨H, hH⟩ : ∃ H, H = s.heap := ⟨_, rfl⟩
  obtain ⟨locs, hlocs⟩ : ∃ q : List Loc, q = [] := ⟨_, rfl⟩
  have hP : va_P D vwCl [(h, .inr (6, [.null, .int (nI 0)]))] H := by rw [hH]; exact hP
  have hS : va_S A s.heap H locs := by rw [hH, hlocs]; exact hS
  rw [← hlocs]
  suffices hgoal : W p l e ({ frames := 1, cells := 1, slots := 160, locals := 20 }) s m ([.ref h] : List Value).toArray below meth c H locs 0 0 Q (F0 m 0 ls []) by rw [hH] at hgoal; exact hgoal
  clear hH hlocs
  refine lv_aload_n hx hb dX6_init_0 rfl (lv_at hl 0 rfl) ?_
  refine W.objInit hx hb C.1.2.2.2.1 (C.1.2.2.2.2 _ tw_42) (C.1.2.2.2.2 _ tw_10) (C.1.2.2.2.2 _ tw_11) rfl (by rw [C.1.2.2.1]; exact hl.1) rfl dX6_init_1 (Nat.le_of_ble_eq_true rfl) (Nat.le_of_ble_eq_true rfl) ?_
  refine W.eq (g2 := F0 m 4 ls []) rfl ?_
  refine lv_aload_n hx hb dX6_init_4 rfl (lv_at hl 0 rfl) ?_
  refine ta_sipush C 160 dX6_init_5 (by decide) ?_
  refine ta_newi C hP hD hS (n := 160) (by decide) (Nat.le_of_ble_eq_true rfl) (Nat.le_of_ble_eq_true rfl) dX6_init_8 (fun q1 H hP hD hS => ?_)
  have hP : va_P D vwCl [(h, .inr (6, [.null, .int (nI 0)])), (q1, .inl (k.1 0, 160, .inl (ta_e (fun _ => 0))))] H := hP
  have hD : va_D A [(h, .inr (6, [.null, .int (nI 0)])), (q1, .inl (k.1 0, 160, .inl (ta_e (fun _ => 0))))] := hD
  refine ta_putF C hI hP hD hS 0 inlX6 tyX6 tyX6_ok nmX6 rfl rfl 0 (by decide) tw_44 rfl rfl rfl rfl (Nat.le_of_ble_eq_true rfl) dX6_init_10 (fun H locs hP hD hS => ?_)
  have hP : va_P D vwCl [(h, .inr (6, [.ref q1, .int (nI 0)])), (q1, .inl (k.1 0, 160, .inl (ta_e (fun _ => 0))))] H := hP
  have hD : va_D A [(h, .inr (6, [.ref q1, .int (nI 0)])), (q1, .inl (k.1 0, 160, .inl (ta_e (fun _ => 0))))] := hD
  refine lv_aload_n hx hb dX6_init_13 rfl (lv_at hl 0 rfl) ?_
  refine ta_iconst C 0 dX6_init_14 (by decide) ?_
  refine ta_put C hP hD hS 0 inlX6 tyX6 tyX6_ok nmX6 rfl rfl 1 (by decide) tw_45 rfl rfl rfl (Nat.le_of_ble_eq_true rfl) dX6_init_15 (fun H locs hP hD hS => ?_)
  have hP : va_P D vwCl [(h, .inr (6, [.ref q1, .int (nI 0)])), (q1, .inl (k.1 0, 160, .inl (ta_e (fun _ => 0))))] H := hP
  have hD : va_D A [(h, .inr (6, [.ref q1, .int (nI 0)])), (q1, .inl (k.1 0, 160, .inl (ta_e (fun _ => 0))))] := hD
  exact ret (ta_l [0, q1]) dX6_init_18 trivial (hP.sub [0, 1] rfl) (hD.sub [0, 1] (by decide) rfl) hS

set_option maxHeartbeats 4000000 in
set_option maxRecDepth 100000 in
theorem c_X5_init (l : Launch) (D : va_G) (k : ta_C) (h : Nat) : ta_Ma (S := Nat → Nat) l D k yX5_init cX5_init 1 1 20 2 12 [.ref h] [(h, .inr (5, [.null, .null, .int (nI 0)]))] (fun _ => True) (fun u => (siW k (ta_h h u) 0 ta_z1 ta_z1)) := by
  refine ta_enter_a (by decide) rfl (Nat.le_of_ble_eq_true rfl) ?_
  intro p e s m below meth c A ls Q C hO hI ret hP hD hS hl
  have C : ta_At p l D k s m ([.ref h] : List Value).toArray c RX5 cX5_init 1 A := C
  have hx := C.1.1
  have hb := C.1.2.1
  have hl : lv_has ls 1 [(0, .ref h)] := hl
  obtain ⟨H, hH⟩ : ∃ H, H = s.heap := ⟨_, rfl⟩
  obtain ⟨locs, hlocs⟩ : ∃ q : List Loc, q = [] := ⟨_, rfl⟩
  have hP : va_P D vwCl [(h, .inr (5, [.null, .null, .int (nI 0)]))] H := by rw [hH]; exact hP
  have hS : va_S A s.heap H locs := by rw [hH, hlocs]; exact hS
  rw [← hlocs]
  suffices hgoal : W p l e ({ frames := 1, cells := 2, slots := 12, locals := 20 }) s m ([.ref h] : List Value).toArray below meth c H locs 0 0 Q (F0 m 0 ls []) by rw [hH] at hgoal; exact hgoal
  clear hH hlocs
  refine lv_aload_n hx hb dX5_init_0 rfl (lv_at hl 0 rfl) ?_
  refine W.objInit hx hb C.1.2.2.2.1 (C.1.2.2.2.2 _ tw_92) (C.1.2.2.2.2 _ tw_10) (C.1.2.2.2.2 _ tw_11) rfl (by rw [C.1.2.2.1]; exact hl.1) rfl dX5_init_1 (Nat.le_of_ble_eq_true rfl) (Nat.le_of_ble_eq_true rfl) ?_
  refine W.eq (g2 := F0 m 4 ls []) rfl ?_
  refine lv_aload_n hx hb dX5_init_4 rfl (lv_at hl 0 rfl) ?_
  refine ta_bipush C 6 dX5_init_5 (by decide) ?_
  refine ta_newi C hP hD hS (n := 6) (by decide) (Nat.le_of_ble_eq_true rfl) (Nat.le_of_ble_eq_true rfl) dX5_init_7 (fun q1 H hP hD hS => ?_)
  have hP : va_P D vwCl [(h, .inr (5, [.null, .null, .int (nI 0)])), (q1, .inl (k.1 0, 6, .inl (ta_e (fun _ => 0))))] H := hP
  have hD : va_D A [(h, .inr (5, [.null, .null, .int (nI 0)])), (q1, .inl (k.1 0, 6, .inl (ta_e (fun _ => 0))))] := hD
  refine ta_putF C hI hP hD hS 0 inlX5 tyX5 tyX5_ok nmX5 rfl rfl 0 (by decide) tw_93 rfl rfl rfl rfl (Nat.le_of_ble_eq_true rfl) dX5_init_9 (fun H locs hP hD hS => ?_)
  have hP : va_P D vwCl [(h, .inr (5, [.ref q1, .null, .int (nI 0)])), (q1, .inl (k.1 0, 6, .inl (ta_e (fun _ => 0))))] H := hP
  have hD : va_D A [(h, .inr (5, [.ref q1, .null, .int (nI 0)])), (q1, .inl (k.1 0, 6, .inl (ta_e (fun _ => 0))))] := hD
  refine lv_aload_n hx hb dX5_init_12 rfl (lv_at hl 0 rfl) ?_
  refine ta_bipush C 6 dX5_init_13 (by decide) ?_
  refine ta_newi C hP hD hS (n := 6) (by decide) (Nat.le_of_ble_eq_true rfl) (Nat.le_of_ble_eq_true rfl) dX5_init_15 (fun q2 H hP hD hS => ?_)
  have hP : va_P D vwCl [(h, .inr (5, [.ref q1, .null, .int (nI 0)])), (q1, .inl (k.1 0, 6, .inl (ta_e (fun _ => 0)))), (q2, .inl (k.1 0, 6, .inl (ta_e (fun _ => 0))))] H := hP
  have hD : va_D A [(h, .inr (5, [.ref q1, .null, .int (nI 0)])), (q1, .inl (k.1 0, 6, .inl (ta_e (fun _ => 0)))), (q2, .inl (k.1 0, 6, .inl (ta_e (fun _ => 0))))] := hD
  refine ta_putF C hI hP hD hS 0 inlX5 tyX5 tyX5_ok nmX5 rfl rfl 1 (by decide) tw_94 rfl rfl rfl rfl (Nat.le_of_ble_eq_true rfl) dX5_init_17 (fun H locs hP hD hS => ?_)
  have hP : va_P D vwCl [(h, .inr (5, [.ref q1, .ref q2, .int (nI 0)])), (q1, .inl (k.1 0, 6, .inl (ta_e (fun _ => 0)))), (q2, .inl (k.1 0, 6, .inl (ta_e (fun _ => 0))))] H := hP
  have hD : va_D A [(h, .inr (5, [.ref q1, .ref q2, .int (nI 0)])), (q1, .inl (k.1 0, 6, .inl (ta_e (fun _ => 0)))), (q2, .inl (k.1 0, 6, .inl (ta_e (fun _ => 0))))] := hD
  refine lv_aload_n hx hb dX5_init_20 rfl (lv_at hl 0 rfl) ?_
  refine ta_iconst C 0 dX5_init_21 (by decide) ?_
  refine ta_put C hP hD hS 0 inlX5 tyX5 tyX5_ok nmX5 rfl rfl 2 (by decide) tw_95 rfl rfl rfl (Nat.le_of_ble_eq_true rfl) dX5_init_22 (fun H locs hP hD hS => ?_)
  have hP : va_P D vwCl [(h, .inr (5, [.ref q1, .ref q2, .int (nI 0)])), (q1, .inl (k.1 0, 6, .inl (ta_e (fun _ => 0)))), (q2, .inl (k.1 0, 6, .inl (ta_e (fun _ => 0))))] H := hP
  have hD : va_D A [(h, .inr (5, [.ref q1, .ref q2, .int (nI 0)])), (q1, .inl (k.1 0, 6, .inl (ta_e (fun _ => 0)))), (q2, .inl (k.1 0, 6, .inl (ta_e (fun _ => 0))))] := hD
  exact ret (ta_l [0, q1, q2]) dX5_init_25 trivial (hP.sub [0, 1, 2] rfl) (hD.sub [0, 1, 2] (by decide) rfl) hS
