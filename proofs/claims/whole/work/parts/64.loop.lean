/-! THE CLAIM OUT OF ONE WALK OF THE LAW'S BODY. Your part is whole_start (and what it stands on); all else here is the same for every law, but numbers. -/
def R_law : String := "TwoArmiesLaw"
def lw_P (b : Addr) (xs : List Int32) (args : Array Value) (s : State) : Prop := args = #[.ref b] ∧ s.IntsAt b xs ∧ xs.length ≤ 256 ∧ (Jvm.Cond.and given_1 narrow_1).before args s = true
def lw_Q (_ : Array Value) (s : State) (o : Outcome) (t : State) : Prop := o = .returned (some (.int 1)) ∧ Framed s o t [] 600000 7302249
def lw_Z (below : List Frame) (a : Array Value) (s : State) : State → Prop := fun t => ∃ o, t.status = .running ∧ Ended t below o ∧ lw_Q a s o t
/-- the law's own end, with 1 on the stack, nothing written that was there before, its room as the claim has it -/
theorem lw_ret {p : Program} {l : Launch} {e : Env} {s : State} {m : MethodId} {below : List Frame} {meth : Method} {c : Code} {b : Nat} (hx : p.tables.exec = Jvm.exec) (hb : c.code = code) (hr : meth.sig.returnType = ret) (hlocks : meth.locks = false) {pc : Nat} {H : Heap} {ls : Array Slot} (hdg : decode code pc = .ok (.ireturn, 1)) : W p l e room_1 s m #[Value.ref b] below meth c H [] 600000 7302249 (lw_Z below #[Value.ref b] s) (F0 m pc ls [.int 1]) := by
  intro T hT X
  obtain ⟨fs, hret, hrun, hended, hW, hframe⟩ := X.leave (v := some (.int 1)) (hlocks := hlocks) (fun h => by rw [hr] at h; cases h)
  have hmeth' : T.vm.method? m = some meth := X.method'
  refine ⟨T.setFrames fs, ?_, .returned (some (.int 1)), hrun, hended, rfl, ⟨_, rfl⟩, hW, hframe⟩
  jvm_step X.here [X.here.top, hx, hb, hdg, hmeth', hr, ret, narrow_b1]
  (try refine ⟨rfl, ?_⟩); (try refine ⟨rfl, ?_⟩)
  first | (intro acts; rw [hret _ acts rfl rfl rfl]) | rw [hret _ _ rfl rfl rfl]
  exact Steps.refl _
/-- what holds at the law's entry: the machine, the code, the tables' words (any of lw_tbl by 'hts w (by decide +kernel)'), the script of L ints xs at the cell b, what the Statement gives of the start (any of its parts by flat_of_before) -/
def lw_At (p : Program) (s : State) (m : MethodId) (meth : Method) (c : Code) (b L : Nat) (xs : Nat → Int32) : Prop :=
  p.tables.exec = Jvm.exec ∧ c.code = code ∧ meth.sig.returnType = ret ∧ c.maxLocals = 4 ∧ s.vm.findClass R_law = some m.cls ∧ (∀ w ∈ lw_tbl, w.before #[Value.ref b] s = true) ∧ va_X b L xs s s.heap ∧ b < s.heap.size ∧ meth.locks = false ∧ (Jvm.Cond.and given_1 narrow_1).before #[Value.ref b] s = true
theorem lw_I_up {D : va_G} {k : ta_C} {A : Nat → Prop} {H : Heap} {o : Nat → Nat} {x : Nat → Nat} {tq : Nat → Nat} {rd : Nat} {pq : Nat → Nat} {q : Nat → Nat} {tr : Nat → Nat} {pz : Nat → Nat} {ke : Nat → Nat → Nat} {sz : Nat → Nat} {z : Nat → Nat} {bd : Nat} (h : lw_I D k A H o x tq rd pq q tr pz ke sz z bd) : lw_I D k A H o x tq rd pq q tr pz ke sz z (bd + 400) := by
  obtain ⟨L, tx, t, Y, g, X, kn, T, G, Z, pa, kp, T2, K, Z2, im, no, nt, d, st0, en, fa, cl, t0, Y0, tt, gg, XX, at_, so, sr, va, dr, hd, hB, hP, hD⟩ := h
  exact ⟨L, tx, t, Y, g, X, kn, T, G, Z, pa, kp, T2, K, Z2, im, no, nt, d, st0, en, fa, cl, t0, Y0, tt, gg, XX, at_, so, sr, va, dr, hd, lb_up hB, hP, hD⟩
theorem lw_cmp {L i : Nat} (hL : L ≤ 256) (hi : i ≤ 300) : nI L - nI 4 < nI i ↔ L < i + 4 := by
  rcases Nat.lt_or_ge L 4 with h | h
  · have h1 : nI L - nI 4 < 0 := by
      rcases (show L = 0 ∨ L = 1 ∨ L = 2 ∨ L = 3 by omega) with rfl | rfl | rfl | rfl <;> decide
    exact ⟨fun _ => by omega, fun _ => Int32.lt_of_lt_of_le h1 (nI_pos' (by omega))⟩
  · rw [pk_sub h, nI_ltI (by omega) (by omega)]
    omega
set_option maxHeartbeats 4000000 in
set_option maxRecDepth 100000 in
theorem law_loop {p : Program} {l : Launch} {e : Env} {s : State} {m : MethodId} {below : List Frame} {meth : Method} {c : Code} {D : va_G} {k : ta_C} {b L : Nat} {xs : Nat → Int32} {o : Nat → Nat} {x : Nat → Nat} {tq : Nat → Nat} {rd : Nat} {pq : Nat → Nat} {q : Nat → Nat} {tr : Nat → Nat} {pz : Nat → Nat} {ke : Nat → Nat → Nat} {sz : Nat → Nat} {z : Nat → Nat} (hL : L ≤ 256) (C0 : lw_At p s m meth c b L xs) (C : ta_At p l D k s m #[Value.ref b] c RL cL_law 4 (fun q => s.heap.size ≤ q)) :
    ∀ (n i : Nat), i ≤ 260 → L + 1 ≤ i + n → ∀ (H : Heap) (locs : List Loc) (ls : Array Slot), lw_I D k (fun q => s.heap.size ≤ q) H o x tq rd pq q tr pz ke sz z (100 * i) → va_S (fun q => s.heap.size ≤ q) s.heap H locs → lv_has ls 4 [(3, .int (nI i)), (2, .ref (z 0)), (1, .ref (o 0)), (0, .ref b)] → W p l e room_1 s m #[Value.ref b] below meth c H locs 169 2472 (lw_Z below #[Value.ref b] s) (F0 m 18 ls []) := by
  obtain ⟨hx, hb, hr, hml, hown, hts, hXs, hbl, hlocks, hgv⟩ := C0
  have hbA : ¬ (fun q : Nat => s.heap.size ≤ q) b := Nat.not_le.mpr hbl
  intro n
  induction n with
  | zero =>
    intro i h1 h2 H locs ls hI hS hl
    refine lv_iload_n hx hb dL_law_18 rfl (lv_at hl 0 rfl) ?_
    refine lv_aload_n hx hb dL_law_19 rfl (lv_at hl 3 rfl) ?_
    refine va_slen hx hb hXs hbl hbA hS dL_law_20 ?_
    refine ta_iconst C 4 dL_law_21 (by decide) ?_
    refine lv_isub hx hb dL_law_22 ?_
    refine lv_icmp_gt (tgt := 735) hx hb dL_law_23 (by decide) (fun _ => ?_) (fun c1 => absurd ((lw_cmp hL (by omega)).mpr (by omega)) c1)
    refine lv_iconst (v := 1) hx hb dL_law_735 (by decide) ?_
    refine va_forget (fun q hq => hS.2.2 q hq) ?_
    refine W.widen (k := 600000) (n := 7302249) (by decide) (by decide) ?_
    exact lw_ret hx hb hr hlocks dL_law_736
  | succ n ih =>
    intro i h1 h2 H locs ls hI hS hl
    refine lv_iload_n hx hb dL_law_18 rfl (lv_at hl 0 rfl) ?_
    refine lv_aload_n hx hb dL_law_19 rfl (lv_at hl 3 rfl) ?_
    refine va_slen hx hb hXs hbl hbA hS dL_law_20 ?_
    refine ta_iconst C 4 dL_law_21 (by decide) ?_
    refine lv_isub hx hb dL_law_22 ?_
    refine lv_icmp_gt (tgt := 735) hx hb dL_law_23 (by decide) (fun _ => ?_) (fun c1 => ?_)
    · refine lv_iconst (v := 1) hx hb dL_law_735 (by decide) ?_
      refine va_forget (fun q hq => hS.2.2 q hq) ?_
      refine W.widen (k := 600000) (n := 7302249) (by decide) (by decide) ?_
      exact lw_ret hx hb hr hlocks dL_law_736
    · have hi : i + 4 ≤ L := Nat.le_of_not_lt (fun h => c1 ((lw_cmp hL (by omega)).mpr h))
      have kk : ∀ (H : Heap) (locs : List Loc) (ls : Array Slot), lw_I D k (fun q => s.heap.size ≤ q) H o x tq rd pq q tr pz ke sz z (100 * i + 400) → va_S (fun q => s.heap.size ≤ q) s.heap H locs → lv_has ls 4 [(3, .int (nI i)), (2, .ref (z 0)), (1, .ref (o 0)), (0, .ref b)] → W p l e room_1 s m #[Value.ref b] below meth c H locs 169 2472 (lw_Z below #[Value.ref b] s) (F0 m 729 ls []) := by
        intro H locs ls hI hS hl
        refine lv_iinc (v := nI (i + 4)) (lv' := [(3, .int (nI (i + 4))), (2, .ref (z 0)), (1, .ref (o 0)), (0, .ref b)]) hx hb dL_law_729 hl (k := 0) rfl (ta_inc4 _) (by decide) rfl (fun ls hl => ?_)
        refine lv_goto (tgt := 18) hx hb dL_law_732 (by decide) ?_
        exact ih (i + 4) (by omega) (by omega) H locs ls (by rw [show 100 * (i + 4) = 100 * i + 400 by omega]; exact hI) hS hl
      obtain ⟨a0, wa0, ea0⟩ := ta_nat (xs i)
      refine lv_aload_n hx hb dL_law_26 rfl (lv_at hl 3 rfl) ?_
      refine lv_iload_n hx hb dL_law_27 rfl (lv_at hl 0 rfl) ?_
      refine va_sld hx hb hXs hbl hbA hS (vp_in_nI (n := i) (by omega) (by omega)) dL_law_28 ?_
      refine ta_val (y := nI a0) (by rw [nI_clamp (by omega)]; exact ea0) ?_
      refine ta_bipush C 31 dL_law_29 (by decide) ?_
      refine ta_iand C (a := a0) (b := 31) 5 wa0 (by decide) dL_law_31 ?_
      refine ta_nv (y := a0 % 32) rfl ?_
      rcases (show a0 % 32 = 0 ∨ a0 % 32 = 1 ∨ a0 % 32 = 2 ∨ a0 % 32 = 3 ∨ a0 % 32 = 4 ∨ a0 % 32 = 5 ∨ a0 % 32 = 6 ∨ a0 % 32 = 7 ∨ a0 % 32 = 8 ∨ a0 % 32 = 9 ∨ a0 % 32 = 10 ∨ a0 % 32 = 11 ∨ a0 % 32 = 12 ∨ a0 % 32 = 13 ∨ a0 % 32 = 14 ∨ a0 % 32 = 15 ∨ a0 % 32 = 16 ∨ a0 % 32 = 17 ∨ a0 % 32 = 18 ∨ a0 % 32 = 19 ∨ a0 % 32 = 20 ∨ a0 % 32 = 21 ∨ a0 % 32 = 22 ∨ 23 ≤ a0 % 32 by omega) with hj | hj | hj | hj | hj | hj | hj | hj | hj | hj | hj | hj | hj | hj | hj | hj | hj | hj | hj | hj | hj | hj | hj | hj
      · refine ta_nv (y := 0) hj ?_
        refine lv_tableIn (tgt := 140) hx hb dL_law_32 (by decide) (by decide) (off := 108) (by decide) (by decide) ?_
        exact lc_write C hXs hbl hbA hi hL (by omega) hI hS hl kk
      · refine ta_nv (y := 1) hj ?_
        refine lv_tableIn (tgt := 163) hx hb dL_law_32 (by decide) (by decide) (off := 131) (by decide) (by decide) ?_
        exact lc_erase C hXs hbl hbA hi hL (by omega) hI hS hl kk
      · refine ta_nv (y := 2) hj ?_
        refine lv_tableIn (tgt := 176) hx hb dL_law_32 (by decide) (by decide) (off := 144) (by decide) (by decide) ?_
        exact lc_fault C hXs hbl hbA hi hL (by omega) hI hS hl kk
      · refine ta_nv (y := 3) hj ?_
        refine lv_tableIn (tgt := 189) hx hb dL_law_32 (by decide) (by decide) (off := 157) (by decide) (by decide) ?_
        exact lc_parade C hXs hbl hbA hi hL (by omega) hI hS hl kk
      · refine ta_nv (y := 4) hj ?_
        refine lv_tableIn (tgt := 202) hx hb dL_law_32 (by decide) (by decide) (off := 170) (by decide) (by decide) ?_
        exact lc_mud C hXs hbl hbA hi hL (by omega) hI hS hl kk
      · refine ta_nv (y := 5) hj ?_
        refine lv_tableIn (tgt := 225) hx hb dL_law_32 (by decide) (by decide) (off := 193) (by decide) (by decide) ?_
        exact lc_figure C hXs hbl hbA hi hL (by omega) hI hS hl kk
      · refine ta_nv (y := 6) hj ?_
        refine lv_tableIn (tgt := 268) hx hb dL_law_32 (by decide) (by decide) (off := 236) (by decide) (by decide) ?_
        exact lc_army C hXs hbl hbA hi hL (by omega) hI hS hl kk
      · refine ta_nv (y := 7) hj ?_
        refine lv_tableIn (tgt := 301) hx hb dL_law_32 (by decide) (by decide) (off := 269) (by decide) (by decide) ?_
        exact lc_as C hXs hbl hbA hi hL (by omega) hI hS hl kk
      · refine ta_nv (y := 8) hj ?_
        refine lv_tableIn (tgt := 334) hx hb dL_law_32 (by decide) (by decide) (off := 302) (by decide) (by decide) ?_
        exact lc_pass C hXs hbl hbA hi hL (by omega) hI hS hl kk
      · refine ta_nv (y := 9) hj ?_
        refine lv_tableIn (tgt := 357) hx hb dL_law_32 (by decide) (by decide) (off := 325) (by decide) (by decide) ?_
        exact lc_order C hXs hbl hbA hi hL (by omega) hI hS hl kk
      · refine ta_nv (y := 10) hj ?_
        refine lv_tableIn (tgt := 400) hx hb dL_law_32 (by decide) (by decide) (off := 368) (by decide) (by decide) ?_
        exact lc_wind C hXs hbl hbA hi hL (by omega) hI hS hl kk
      · refine ta_nv (y := 11) hj ?_
        refine lv_tableIn (tgt := 423) hx hb dL_law_32 (by decide) (by decide) (off := 391) (by decide) (by decide) ?_
        exact lc_undo C hXs hbl hbA hi hL (by omega) hI hS hl kk
      · refine ta_nv (y := 12) hj ?_
        refine lv_tableIn (tgt := 436) hx hb dL_law_32 (by decide) (by decide) (off := 404) (by decide) (by decide) ?_
        exact lc_keep C hXs hbl hbA hi hL (by omega) hI hS hl kk
      · refine ta_nv (y := 13) hj ?_
        refine lv_tableIn (tgt := 459) hx hb dL_law_32 (by decide) (by decide) (off := 427) (by decide) (by decide) ?_
        exact lc_back C hXs hbl hbA hi hL (by omega) hI hS hl kk
      · refine ta_nv (y := 14) hj ?_
        refine lv_tableIn (tgt := 482) hx hb dL_law_32 (by decide) (by decide) (off := 450) (by decide) (by decide) ?_
        exact lc_behind C hXs hbl hbA hi hL (by omega) hI hS hl kk
      · refine ta_nv (y := 15) hj ?_
        refine lv_tableIn (tgt := 515) hx hb dL_law_32 (by decide) (by decide) (off := 483) (by decide) (by decide) ?_
        exact lc_first C hXs hbl hbA hi hL (by omega) hI hS hl kk
      · refine ta_nv (y := 16) hj ?_
        refine lv_tableIn (tgt := 538) hx hb dL_law_32 (by decide) (by decide) (off := 506) (by decide) (by decide) ?_
        exact lc_plot C hXs hbl hbA hi hL (by omega) hI hS hl kk
      · refine ta_nv (y := 17) hj ?_
        refine lv_tableIn (tgt := 581) hx hb dL_law_32 (by decide) (by decide) (off := 549) (by decide) (by decide) ?_
        exact lc_seen C hXs hbl hbA hi hL (by omega) hI hS hl kk
      · refine ta_nv (y := 18) hj ?_
        refine lv_tableIn (tgt := 614) hx hb dL_law_32 (by decide) (by decide) (off := 582) (by decide) (by decide) ?_
        exact lc_forget C hXs hbl hbA hi hL (by omega) hI hS hl kk
      · refine ta_nv (y := 19) hj ?_
        refine lv_tableIn (tgt := 627) hx hb dL_law_32 (by decide) (by decide) (off := 595) (by decide) (by decide) ?_
        exact lc_wound C hXs hbl hbA hi hL (by omega) hI hS hl kk
      · refine ta_nv (y := 20) hj ?_
        refine lv_tableIn (tgt := 640) hx hb dL_law_32 (by decide) (by decide) (off := 608) (by decide) (by decide) ?_
        exact lc_ordered C hXs hbl hbA hi hL (by omega) hI hS hl kk
      · refine ta_nv (y := 21) hj ?_
        refine lv_tableIn (tgt := 673) hx hb dL_law_32 (by decide) (by decide) (off := 641) (by decide) (by decide) ?_
        exact lc_inspected C hXs hbl hbA hi hL (by omega) hI hS hl kk
      · refine ta_nv (y := 22) hj ?_
        refine lv_tableIn (tgt := 706) hx hb dL_law_32 (by decide) (by decide) (off := 674) (by decide) (by decide) ?_
        exact lc_count C hXs hbl hbA hi hL (by omega) hI hS hl kk
      · refine lv_tableOut (tgt := 729) hx hb dL_law_32 (ta_swo (by omega) (by omega)) (by decide) ?_
        exact kk H locs ls (lw_I_up hI) hS hl
