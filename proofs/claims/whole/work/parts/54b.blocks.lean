/-! worlds as rows of blocks -/
theorem tb_mem {D : va_G} {cl : List vw_C} {H : Heap} {ws : va_W} : va_P D cl ws H ↔ ∀ q ∈ ws, va_at D cl q H :=
  ⟨fun h q hq => by obtain ⟨i, hi⟩ := List.mem_iff_getElem?.mp hq; exact h i q hi, fun h k q hk => h q (List.mem_of_getElem? hk)⟩
theorem tb_nd {A : Nat → Prop} {ws : va_W} : va_D A ws ↔ (ws.map Prod.fst).Nodup ∧ ∀ q ∈ ws, A q.1 := by
  constructor
  · intro h
    refine ⟨?_, fun q hq => by obtain ⟨i, hi⟩ := List.mem_iff_getElem?.mp hq; exact h.2 i q hi⟩
    refine List.pairwise_iff_getElem.mpr ?_
    intro i j hi hj hij e
    rw [List.length_map] at hi hj
    have e2 : ws[i].1 = ws[j].1 := by
      rw [List.getElem_map, List.getElem_map] at e
      exact e
    have := h.1 i j ws[i] ws[j] (List.getElem?_eq_getElem hi) (List.getElem?_eq_getElem hj) e2
    omega
  · intro h
    refine ⟨fun i j p q hi hj e => ?_, fun k q hk => h.2 q (List.mem_of_getElem? hk)⟩
    have hp := List.pairwise_iff_getElem.mp h.1
    obtain ⟨li, ei⟩ := List.getElem?_eq_some_iff.mp hi
    obtain ⟨lj, ej⟩ := List.getElem?_eq_some_iff.mp hj
    have key : ∀ (i j : Nat) (li : i < ws.length) (lj : j < ws.length), ws[i].1 = ws[j].1 → ¬ i < j := by
      intro i j li lj e hij
      refine hp i j (by rw [List.length_map]; exact li) (by rw [List.length_map]; exact lj) hij ?_
      rw [List.getElem_map, List.getElem_map]
      exact e
    have e2 : ws[i].1 = ws[j].1 := by rw [ei, ej]; exact e
    have h1 := key i j li lj e2
    have h2 := key j i lj li e2.symm
    omega
theorem tb_Pp {D : va_G} {cl : List vw_C} {H : Heap} {w1 w2 : va_W} (hp : w1.Perm w2) (h : va_P D cl w1 H) : va_P D cl w2 H := tb_mem.mpr (fun q hq => tb_mem.mp h q (hp.mem_iff.mpr hq))
theorem tb_Dp {A : Nat → Prop} {w1 w2 : va_W} (hp : w1.Perm w2) (h : va_D A w1) : va_D A w2 := by
  obtain ⟨h1, h2⟩ := tb_nd.mp h
  exact tb_nd.mpr ⟨(hp.map Prod.fst).nodup h1, fun q hq => h2 q (hp.mem_iff.mpr hq)⟩
theorem tb_perm {L L2 : List va_W} (is : List Nat) (hp : is.Perm (List.range L.length)) (hL : is.map (fun i => L.getD i []) = L2) : L.flatten.Perm L2.flatten := by
  have e : (List.range L.length).map (fun i => L.getD i []) = L := by
    apply List.ext_getElem
    · simp
    · intro i h1 h2
      simp [h2]
  have h := (hp.map (fun i => L.getD i [])).flatten
  rw [e, hL] at h
  exact h.symm
theorem tb_app {D : va_G} {cl : List vw_C} {H : Heap} {w1 w2 : va_W} (h : va_P D cl (w1 ++ w2) H) : va_P D cl w1 H ∧ va_P D cl w2 H := ⟨tb_mem.mpr (fun q hq => tb_mem.mp h q (List.mem_append_left _ hq)), tb_mem.mpr (fun q hq => tb_mem.mp h q (List.mem_append_right _ hq))⟩
/-- behind a call: the rest, which is unchanged, and what came back -/
theorem tb_join {A0 : Nat → Prop} {D : va_G} {cl : List vw_C} {wr wc w1 : va_W} {H H1 : Heap} (hP : va_P D cl (wr ++ wc) H) (hD : va_D A0 (wr ++ wc))
    (hk : ∀ q : Nat, q < H.size → ¬ va_A wc H.size q → H1[q]? = H[q]?) (hF : ∀ q, va_A wc H.size q → A0 q) (hP1 : va_P D cl w1 H1) (hD1 : va_D (va_A wc H.size) w1) : va_P D cl (wr ++ w1) H1 ∧ va_D A0 (wr ++ w1) := by
  obtain ⟨hPr, hPc⟩ := tb_app hP
  obtain ⟨n1, n2⟩ := tb_nd.mp hD
  obtain ⟨m1, m2⟩ := tb_nd.mp hD1
  rw [List.map_append, List.nodup_append] at n1
  obtain ⟨a1, a2, a3⟩ := n1
  have apart : ∀ q ∈ wr, q.1 < H.size ∧ ¬ va_A wc H.size q.1 := by
    intro q hq
    obtain ⟨i, hi⟩ := List.mem_iff_getElem?.mp hq
    have hl := (hPr i q hi).lt
    refine ⟨hl, fun h => ?_⟩
    rcases h with ⟨k, e, h⟩ | h
    · exact a3 q.1 (List.mem_map.mpr ⟨q, hq, rfl⟩) q.1 (List.mem_map.mpr ⟨(q.1, e), List.mem_of_getElem? h, rfl⟩) rfl
    · omega
  constructor
  · refine va_P.app (hPr.kept (fun j q hj => hk q.1 (apart q (List.mem_of_getElem? hj)).1 (apart q (List.mem_of_getElem? hj)).2)) hP1
  · refine tb_nd.mpr ⟨?_, fun q hq => ?_⟩
    · rw [List.map_append, List.nodup_append]
      refine ⟨a1, m1, fun x hx y hy e => ?_⟩
      obtain ⟨q, hq, rfl⟩ := List.mem_map.mp hx
      obtain ⟨r, hr, rfl⟩ := List.mem_map.mp hy
      exact (apart q hq).2 (by rw [e]; exact m2 r hr)
    · rcases List.mem_append.mp hq with h | h
      · exact n2 q (List.mem_append_left _ h)
      · exact hF _ (m2 q h)
section TBC
variable {p : Program} {l : Launch} {e : Env} {R : Room} {s : State} {m : MethodId} {args : Array Value} {below : List Frame} {meth : Method} {c : Code} {H : Heap} {locs : List Loc} {cells slots : Nat} {Q : State → Prop} {cc : ByteArray} {pc : Nat} {ls : Array Slot} {rest : List Value}
variable {D : va_G} {k : ta_C} {own : String} {nL : Nat} {A : Nat → Prop}
/-- a call that answers an int, with the world as a row of blocks -/
theorem ta_callB {S : Type} {y : MethodName} {bytes : ByteArray} {maxL index fr lo : Nat} {As rest0 st0 : List Value} {Wc : va_W} {Wq : S → va_W} {r0 : FieldType} {b : Nat} {post : Int32 → S → Prop} {L Lr : List va_W} {Lq : S → List va_W} (C : ta_At p l D k s m args c own cc nL A) (hP : va_P D vwCl L.flatten H) (hD : va_D A L.flatten) (hS : va_S A s.heap H locs) (hM : ta_Mi l D k y bytes maxL r0 fr lo (.ref b :: As) Wc post Wq) (isR isC : List Nat) (hp : (isR ++ isC).Perm (List.range L.length)) (hR : isR.map (fun i => L.getD i []) = Lr) (hC : (isC.map (fun i => L.getD i [])).flatten = Wc) (hq : ∀ u, Wq u = (Lq u).flatten) {ci : Nat} {fs : List Value} {cq : vw_C} (he : Wc[0]? = some (b, .inr (ci, fs))) (hc : vwCl[ci]? = some cq) (hcq : cq.1 = y.cls) (hcode : Cond.code y bytes maxL (some r0) ∈ wsL_law) (hl : Cond.methodLink own index y ∈ wsL_law) (hini : Cond.initialized y.cls ∈ wsL_law) (hin : Cond.instanceMethod y ∈ wsL_law) (hse : Cond.selects y.cls y y ∈ wsL_law) (hd : (y.cls ≠ "java/lang/invoke/MethodHandle" ∧ y.cls ≠ "java/lang/invoke/VarHandle" ∧ (parseMethodDescriptor y.desc).map (fun d => d.parameters.length) = some As.length)) (hroom : fr + 1 ≤ R.frames ∧ 8 + (maxL + 11) + lo ≤ R.locals) (hcs : cells ≤ R.cells ∧ slots ≤ R.slots) (hsz : ls.size = nL) (hst : st0 = As.reverse ++ .ref b :: rest0) (hcat : (rest0.map fun v => v.category).sum ≤ 8) (hdg : decode cc pc = .ok (.invokevirtual index, 3)) (kk : ∀ (r : Int32) (u : S) (H1 : Heap) (locs1 : List Loc), post r u → va_P D vwCl (Lr ++ Lq u).flatten H1 → va_D A (Lr ++ Lq u).flatten → va_S A s.heap H1 locs1 → W p l e R s m args below meth c H1 locs1 cells slots Q (F0 m (pc + 3) ls (.int r :: rest0))) : W p l e R s m args below meth c H locs cells slots Q (F0 m pc ls st0) := by
  obtain ⟨⟨hx, hb, hml, hown, hts⟩, hE, hA⟩ := C
  have hperm : L.flatten.Perm (Lr.flatten ++ Wc) := by
    have h := tb_perm (isR ++ isC) hp rfl
    rw [List.map_append, List.flatten_append, hR, hC] at h
    exact h
  have hP2 := tb_Pp hperm hP
  have hD2 := tb_Dp hperm hD
  have hPc := (tb_app hP2).2
  have hn2 := tb_nd.mp hD2
  have hDc : va_D (fun _ => True) Wc := by
    refine tb_nd.mpr ⟨?_, fun _ _ => trivial⟩
    have h1 := hn2.1
    rw [List.map_append, List.nodup_append] at h1
    exact h1.2.1
  have hFc : ∀ q, va_A Wc H.size q → A q := by
    intro q h
    rcases h with ⟨i, e, h⟩ | h
    · exact hn2.2 (q, e) (List.mem_append_right _ (List.mem_of_getElem? h))
    · exact hA q (Nat.le_trans hS.1 h)
  have hG : GoodIn wsL_law (tz y bytes maxL (some r0)) := fun w h => (List.mem_cons.mp h).elim (fun e => by rw [e]; exact wsL_self _ hcode) (wsL_self w)
  have hB : CallB R s args own index y bytes maxL (some r0) (tz y bytes maxL (some r0)) ({ frames := fr, cells := 0, slots := 0, locals := lo }) 0 0 As.length := callB_of As.length hts hG rfl rfl rfl (hts _ hini) (hts _ hl) hd hroom
  have hpre : ∀ U : State, U.heap = H → s.WarmedH U.vm → ta_Pre D k (.ref b :: As) Wc H.size (.ref b :: As).toArray U := fun U hU hW => ⟨rfl, by rw [hU], by rw [hU]; exact hPc, by rw [hU]; exact hE.go hS.2.1 hW hFc, hDc⟩
  subst hst
  refine va_calli (va_runV (As := As) (rest := rest0) (C := y.cls) ⟨hx, hb, hml, hown, hts⟩ (hM H.size) ⟨hB, hts _ hin, hts _ hse⟩ ⟨ta_blind D k _ Wc _, by rw [← hcq]; exact va_recv hE.1 hPc hc he, hpre⟩ rfl rfl hsz rfl (lv_room hcat) hdg hcs) hS (fun q _ h => hFc q h) hFc (fun r u t H1 locs1 ht hvm hw hB1 hz1 hk1 hS1 => ?_)
  obtain ⟨hP1, hD1⟩ := hB1
  rw [ht] at hP1
  obtain ⟨hP3, hD3⟩ := tb_join hP2 hD2 hk1 hFc hP1 hD1
  rw [hq u, ← List.flatten_append] at hP3 hD3
  exact kk r u H1 locs1 hw hP3 hD3 hS1
end TBC
