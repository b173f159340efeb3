theorem ta_inc1 (a : Nat) : nI a + Int32.ofInt 1 = nI (a + 1) := nI_1 a
theorem ta_inc4 (a : Nat) : nI a + Int32.ofInt 4 = nI (a + 4) := nI_add a 4
theorem ta_dec1 {a : Nat} (h : 0 < a) : nI a + Int32.ofInt (-1) = nI (a - 1) := by
  obtain ⟨b, rfl⟩ : ∃ b, a = b + 1 := ⟨a - 1, by omega⟩
  exact pk_m1 b
theorem ta_max {a b : Nat} (ha : a < 2147483648) (hb : b < 2147483648) : (if nI a < nI b then nI b else nI a) = nI (max a b) := by
  by_cases h : a < b
  · rw [if_pos ((nI_ltI ha hb).mpr h), Nat.max_eq_right (Nat.le_of_lt h)]
  · rw [if_neg (fun e => h ((nI_ltI ha hb).mp e)), Nat.max_eq_left (Nat.le_of_not_lt h)]
theorem ta_min {a b : Nat} (ha : a < 2147483648) (hb : b < 2147483648) : (if nI b < nI a then nI b else nI a) = nI (min a b) := by
  by_cases h : b < a
  · rw [if_pos ((nI_ltI hb ha).mpr h), Nat.min_eq_right (Nat.le_of_lt h)]
  · rw [if_neg (fun e => h ((nI_ltI hb ha).mp e)), Nat.min_eq_left (Nat.le_of_not_lt h)]
theorem ta_wrap {a : Nat} (h : 0 < a) : nI (a + 4294967295) = nI (a - 1) := by
  obtain ⟨b, rfl⟩ : ∃ b, a = b + 1 := ⟨a - 1, by omega⟩
  rw [← nI_add]
  exact pk_m1 b
def ta_dr (a b : Nat) : Nat → Option Nat := fun j => if j = 0 then some a else if j = 1 then some b else none

section TAS
variable {p : Program} {l : Launch} {e : Env} {R : Room} {s : State} {m : MethodId} {args : Array Value} {below : List Frame} {meth : Method} {c : Code} {H : Heap} {locs : List Loc} {cells slots : Nat} {Q : State → Prop} {cc : ByteArray} {pc : Nat} {ls : Array Slot} {rest : List Value}
variable {D : va_G} {k : ta_C} {own : String} {nL : Nat} {A : Nat → Prop} {ws : va_W} {a : Nat}
theorem ta_nv {x y : Nat} (h : x = y) (kk : W p l e R s m args below meth c H locs cells slots Q (F0 m pc ls (.int (nI y) :: rest))) : W p l e R s m args below meth c H locs cells slots Q (F0 m pc ls (.int (nI x) :: rest)) := by rw [h]; exact kk
theorem ta_copy (C : ta_At p l D k s m args c own cc nL A) (hP : va_P D vwCl ws H) (hD : va_D A ws) (hS : va_S A s.heap H locs) (q0 q1 : Nat) {a0 n0 n1 sp dp n index : Nat} {f g : Nat → Nat} (ha0 : ws[q0]? = some (a0, .inl (k.1 0, n0, .inl (ta_e f)))) (ha1 : ws[q1]? = some (a, .inl (k.1 0, n1, .inl (ta_e g)))) (hlink : Cond.methodLink own index arraycopyName ∈ wsL_law) (hsz : ls.size = nL) (h4 : sp + n ≤ n0) (h5 : dp + n ≤ n1) (hframes : 1 ≤ R.frames) (hlocals : (rest.map fun v => v.category).sum + (nativeFrameWords "java/lang/System" "arraycopy" 5 + 11) ≤ R.locals) (hdg : decode cc pc = .ok (.invokestatic index, 3))
    (kk : ∀ (H1 : Heap) (locs1 : List Loc), va_P D vwCl (ws.set q1 (a, .inl (k.1 0, n1, .inl (ta_e (va_cpy f g sp dp n))))) H1 → va_D A (ws.set q1 (a, .inl (k.1 0, n1, .inl (ta_e (va_cpy f g sp dp n))))) → va_S A s.heap H1 locs1 → W p l e R s m args below meth c H1 locs1 cells slots Q (F0 m (pc + 3) ls rest)) (hn0 : n0 < 2147483648 := by decide) (hn1 : n1 < 2147483648 := by decide) :
    W p l e R s m args below meth c H locs cells slots Q (F0 m pc ls (.int (nI n) :: .int (nI dp) :: .ref a :: .int (nI sp) :: .ref a0 :: rest)) := by
  have e1 : (nI sp).toNatClampNeg = sp := nI_clamp (by omega)
  have e2 : (nI dp).toNatClampNeg = dp := nI_clamp (by omega)
  have e3 : (nI n).toNatClampNeg = n := nI_clamp (by omega)
  refine va_copyi C.1.1 C.1.2.1 (by rw [C.1.2.2.1]; exact hsz.symm) C.1.2.2.2.1 (C.1.2.2.2.2 _ hlink) (C.1.2.2.2.2 _ tw_118) (C.1.2.2.2.2 _ tw_119) (C.1.2.2.2.2 _ tw_120) C.2.1.1 hP hD hS q0 q1 0 0 ha0 ha1 rfl rfl rfl (nI_pos (by omega)) (nI_pos (by omega)) (nI_pos (by omega)) (by rw [e1, e3]; exact h4) (by rw [e2, e3]; exact h5) (fun i _ => rfl) hframes hlocals hdg ?_
  rw [e1, e2, e3, ta_cpy]
  exact kk
theorem ta_sti (C : ta_At p l D k s m args c own cc nL A) {t n : Nat} {f : Nat → Nat} (hT : va_T .int t n (fun j => .int (ta_e f j)) A s s.heap) (hS : va_S A s.heap H locs) {i : Nat} (hi : i < n) (hdg : decode cc pc = .ok (.iaload, 1)) (kk : W p l e R s m args below meth c H locs cells slots Q (F0 m (pc + 1) ls (.int (nI (f i)) :: rest))) (hn : n < 2147483648 := by decide) : W p l e R s m args below meth c H locs cells slots Q (F0 m pc ls (.int (nI i) :: .ref t :: rest)) := by
  refine va_ti C.1.1 C.1.2.1 hT hS (vp_in_nI hi hn) (v := .int (nI (f i))) ?_ hdg kk
  rw [nI_clamp (Nat.lt_trans hi hn)]
  rfl
/-- a call on a constant text: no cell is its own -/
theorem ta_callKi {S : Type} {y : MethodName} {bytes : ByteArray} {maxL index fr lo i : Nat} {As rest0 st0 : List Value} {r0 : FieldType} {post : Int32 → S → Prop} (C : ta_At p l D k s m args c own cc nL A) (hP : va_P D vwCl ws H) (hD : va_D A ws) (hS : va_S A s.heap H locs) (hM : ta_Mi l D k y bytes maxL r0 fr lo (.ref (k.2 (10 + i)) :: As) [] post (fun _ => [])) (hi : i < 10) (hcq : "java/lang/String" = y.cls) (hcode : Cond.code y bytes maxL (some r0) ∈ wsL_law) (hl : Cond.methodLink own index y ∈ wsL_law) (hini : Cond.initialized y.cls ∈ wsL_law) (hin : Cond.instanceMethod y ∈ wsL_law) (hse : Cond.selects y.cls y y ∈ wsL_law) (hd : (y.cls ≠ "java/lang/invoke/MethodHandle" ∧ y.cls ≠ "java/lang/invoke/VarHandle" ∧ (parseMethodDescriptor y.desc).map (fun d => d.parameters.length) = some As.length)) (hroom : fr + 1 ≤ R.frames ∧ 8 + (maxL + 11) + lo ≤ R.locals) (hcs : cells ≤ R.cells ∧ slots ≤ R.slots) (hsz : ls.size = nL) (hst : st0 = As.reverse ++ .ref (k.2 (10 + i)) :: rest0) (hcat : (rest0.map fun v => v.category).sum ≤ 8) (hdg : decode cc pc = .ok (.invokevirtual index, 3)) (kk : ∀ (r : Int32) (u : S) (H1 : Heap) (locs1 : List Loc), post r u → va_P D vwCl ws H1 → va_S A s.heap H1 locs1 → W p l e R s m args below meth c H1 locs1 cells slots Q (F0 m (pc + 3) ls (.int r :: rest0))) : W p l e R s m args below meth c H locs cells slots Q (F0 m pc ls st0) := by
  obtain ⟨⟨hx, hb, hml, hown, hts⟩, hE, hA⟩ := C
  have hFc := va_free (wc := []) hD hS hA [] rfl
  have hG : GoodIn wsL_law (tz y bytes maxL (some r0)) := fun w h => (List.mem_cons.mp h).elim (fun e => by rw [e]; exact wsL_self _ hcode) (wsL_self w)
  have hB : CallB R s args own index y bytes maxL (some r0) (tz y bytes maxL (some r0)) ({ frames := fr, cells := 0, slots := 0, locals := lo }) 0 0 As.length := callB_of As.length hts hG rfl rfl rfl (hts _ hini) (hts _ hl) hd hroom
  have hpre : ∀ U : State, U.heap = H → s.WarmedH U.vm → ta_Pre D k (.ref (k.2 (10 + i)) :: As) [] H.size (.ref (k.2 (10 + i)) :: As).toArray U := fun U hU hW => ⟨rfl, by rw [hU], fun _ _ h => by simp at h, by rw [hU]; exact hE.go hS.2.1 hW hFc, ⟨fun _ _ _ _ h => by simp at h, fun _ _ h => by simp at h⟩⟩
  subst hst
  refine va_calli (va_runV (As := As) (rest := rest0) (C := y.cls) ⟨hx, hb, hml, hown, hts⟩ (hM H.size) ⟨hB, hts _ hin, hts _ hse⟩ ⟨ta_blind D k _ [] _, by rw [← hcq]; exact vk_recv (adK := fun i => k.2 (10 + i)) hE.2.2.2.2.2.2.2.2.1 hi hS, hpre⟩ rfl rfl hsz rfl (lv_room hcat) hdg hcs) hS (fun q _ h => hFc q h) hFc (fun r u t H1 locs1 ht hvm hw hB1 hz1 hk1 hS1 => ?_)
  exact kk r u H1 locs1 hw (hP.kept (fun j q hj => hk1 q.1 (hP j q hj).lt (fun h => by rcases h with ⟨_, _, h⟩ | h; simp at h; exact absurd (hP j q hj).lt (by omega)))) hS1
end TAS
