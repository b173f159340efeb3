/-! numbers as natural numbers -/
def ta_u (g : Nat → Nat) (k v : Nat) : Nat → Nat := fun j => if j = k then v else g j
def ta_e (g : Nat → Nat) : Nat → Int32 := fun j => nI (g j)
theorem ta_us {g : Nat → Nat} {k v : Nat} : ta_u g k v k = v := if_pos rfl
theorem ta_un {g : Nat → Nat} {k v j : Nat} (h : j ≠ k) : ta_u g k v j = g j := if_neg h
theorem ta_upd (g : Nat → Nat) (k v : Nat) : upd (ta_e g) k (nI v) = ta_e (ta_u g k v) := by
  funext j
  show (if j = k then nI v else nI (g j)) = nI (if j = k then v else g j)
  split <;> rfl
theorem ta_cpy (f g : Nat → Nat) (sp dp n : Nat) : va_cpy (ta_e f) (ta_e g) sp dp n = ta_e (va_cpy f g sp dp n) := by
  funext j
  show (if dp ≤ j ∧ j < dp + n then nI (f (sp + (j - dp))) else nI (g j)) = nI (if dp ≤ j ∧ j < dp + n then f (sp + (j - dp)) else g j)
  split <;> rfl
theorem ta_inj {a b : Nat} (ha : a < 4294967296) (hb : b < 4294967296) : nI a = nI b ↔ a = b := ⟨fun h => by
  have h1 : (nI a).toBitVec.toNat = (nI b).toBitVec.toNat := by rw [h]
  rw [pk_tn (show a < 2 ^ 32 from ha), pk_tn (show b < 2 ^ 32 from hb)] at h1
  exact h1, fun h => by rw [h]⟩
theorem ta_in0 {a : Nat} (ha : a < 4294967296) : nI a = 0 ↔ a = 0 := by
  rw [← nI_0]
  exact ta_inj ha (by decide)
/-- every int is one -/
theorem ta_nat (x : Int32) : ∃ n : Nat, n < 4294967296 ∧ x = nI n := ⟨x.toBitVec.toNat, x.toBitVec.isLt, by
  apply Int32.toBitVec_inj.mp
  apply BitVec.eq_of_toNat_eq
  rw [pk_tn x.toBitVec.isLt]⟩

/-! the environment: class numbers, nest links, constants -/
abbrev ta_C : Type := (Nat → ClassId) × (Nat → Nat)
def ta_tys (k : ta_C) : List (ClassId × FieldType) := [(k.1 0, .int), (k.1 1, .boolean), (k.1 2, .object "TwoArmies$Drill"), (k.1 3, .object "TwoArmies$Day")]
def ta_nf : List (String × Nat × String × String × String) := [("TwoArmies", 72, "TwoArmies$Text", "length", "I"), ("TwoArmies$Reader", 49, "TwoArmies$Text", "length", "I"), ("TwoArmies", 110, "TwoArmies$Drill", "kinds", "[I"), ("TwoArmies$Day", 106, "TwoArmies$Drill", "kinds", "[I"), ("TwoArmies", 113, "TwoArmies$Drill", "minutes", "[I"), ("TwoArmies$Day", 109, "TwoArmies$Drill", "minutes", "[I"), ("TwoArmies$Plan", 34, "TwoArmies$Drill", "size", "I"), ("TwoArmies", 107, "TwoArmies$Drill", "size", "I"), ("TwoArmies$Reader", 115, "TwoArmies$Drill", "size", "I"), ("TwoArmies$Day", 103, "TwoArmies$Drill", "size", "I"), ("TwoArmies$Day", 31, "TwoArmies$Plan", "width", "I"), ("TwoArmies$Reader", 96, "TwoArmies$Plan", "width", "I"), ("TwoArmies$Day", 38, "TwoArmies$Plan", "height", "I"), ("TwoArmies$Reader", 99, "TwoArmies$Plan", "height", "I"), ("TwoArmies$Day", 42, "TwoArmies$Plan", "hourLength", "I"), ("TwoArmies$Reader", 108, "TwoArmies$Plan", "hourLength", "I"), ("TwoArmies$Day", 52, "TwoArmies$Plan", "cell", "I"), ("TwoArmies$Reader", 102, "TwoArmies$Plan", "cell", "I"), ("TwoArmies$Day", 61, "TwoArmies$Plan", "looks", "I"), ("TwoArmies$Reader", 105, "TwoArmies$Plan", "looks", "I"), ("TwoArmies$Day", 75, "TwoArmies$Plan", "drills", "[LTwoArmies$Drill;"), ("TwoArmies$Reader", 111, "TwoArmies$Plan", "drills", "[LTwoArmies$Drill;"), ("TwoArmies", 80, "TwoArmies$Reader", "plan", "LTwoArmies$Plan;"), ("TwoArmies", 90, "TwoArmies$Reader", "clauses", "I"), ("TwoArmies$Day", 15, "TwoArmies", "ROWS_ON", "[I"), ("TwoArmies", 193, "TwoArmies$Day", "width", "I"), ("TwoArmies", 196, "TwoArmies$Day", "height", "I"), ("TwoArmies", 199, "TwoArmies$Day", "hourLength", "I"), ("TwoArmies", 133, "TwoArmies$Day", "hour", "I"), ("TwoArmies", 202, "TwoArmies$Day", "minute", "I"), ("TwoArmies", 166, "TwoArmies$Day", "looks", "I"), ("TwoArmies", 205, "TwoArmies$Day", "begunKind", "I"), ("TwoArmies", 208, "TwoArmies$Day", "minutesLeft", "I"), ("TwoArmies", 96, "TwoArmies$Day", "mudOn", "[I"), ("TwoArmies", 214, "TwoArmies$Day", "piledUp", "[I"), ("TwoArmies", 116, "TwoArmies$Day", "knelt", "[I"), ("TwoArmies", 103, "TwoArmies$Day", "drills", "[LTwoArmies$Drill;"), ("TwoArmies", 89, "TwoArmies$Past", "size", "I"), ("TwoArmies", 86, "TwoArmies$Sightings", "size", "I"), ("TwoArmies$Day", 118, "TwoArmies", "COLUMNS_ON", "[I")]
def ta_nm : List (String × Nat × MethodName) := [("TwoArmies", 9, ⟨"TwoArmies$Text", "<init>", "()V"⟩), ("TwoArmies", 18, ⟨"TwoArmies$Plan", "<init>", "()V"⟩), ("TwoArmies$Plan", 29, ⟨"TwoArmies$Drill", "<init>", "()V"⟩), ("TwoArmies$Reader", 11, ⟨"TwoArmies$Plan", "<init>", "()V"⟩), ("TwoArmies", 34, ⟨"TwoArmies$Day", "<init>", "()V"⟩), ("TwoArmies$Day", 26, ⟨"TwoArmies$Drill", "<init>", "()V"⟩), ("TwoArmies$Past", 21, ⟨"TwoArmies$Day", "<init>", "()V"⟩), ("TwoArmies", 59, ⟨"TwoArmies$Sightings", "<init>", "()V"⟩)]
def ta_N (U : State) : Prop := (∀ q ∈ ta_nf, va_Nw (.fieldLinkNest q.1 q.2.1 q.2.2.1 q.2.2.2.1 q.2.2.2.2 "TwoArmies") U) ∧ ∀ q ∈ ta_nm, va_Nw (.methodLinkNest q.1 q.2.1 q.2.2 "TwoArmies") U
theorem ta_N.warm {s U : State} (hW : s.WarmedH U.vm) (h : ta_N s) : ta_N U := ⟨fun q hq => va_Nw.warmF hW (h.1 q hq), fun q hq => va_Nw.warmM hW (h.2 q hq)⟩
theorem ta_N.same {u U : State} (hv : u.vm = U.vm) (h : ta_N u) : ta_N U := ⟨fun q hq => va_Nw.same rfl hv (h.1 q hq), fun q hq => va_Nw.same rfl hv (h.2 q hq)⟩
def ta_rows (j : Nat) : Nat := if j = 0 then 4294967295 else if j = 2 then 1 else 0
def ta_cols (j : Nat) : Nat := if j = 3 then 4294967295 else if j = 1 then 1 else 0
def ta_goes (j : Nat) : Nat := if j = 2 then 2 else if j < 2 then 1 else 0
def ta_over (j : Nat) : Nat := if j = 0 then 4294967295 else if j = 2 ∨ j = 3 then 1 else 0
def ta_sidx : List Nat := [60, 65, 70, 75, 126, 128, 130, 132, 134, 54]
def ta_stx : List String := ["ground", "stand", "hour", "rest", "march", "back", "double", "turn", "kneel", ";"]
def ta_len : List Nat := [6, 5, 4, 4, 5, 4, 6, 4, 5, 1]
def ta_byt : List (List Int32) := [[103, 114, 111, 117, 110, 100], [115, 116, 97, 110, 100], [104, 111, 117, 114], [114, 101, 115, 116], [109, 97, 114, 99, 104], [98, 97, 99, 107], [100, 111, 117, 98, 108, 101], [116, 117, 114, 110], [107, 110, 101, 101, 108], [59]]
def ta_St (k : ta_C) (A : Nat → Prop) (U : State) (H : Heap) : Prop :=
  (va_Z "TwoArmies" "ROWS_ON" "[I" (.ref (k.2 0)) A U H ∧ va_T .int (k.2 0) 4 (fun j => .int (ta_e ta_rows j)) A U H) ∧
  (va_Z "TwoArmies" "COLUMNS_ON" "[I" (.ref (k.2 1)) A U H ∧ va_T .int (k.2 1) 4 (fun j => .int (ta_e ta_cols j)) A U H) ∧
  (va_Z "TwoArmies" "CELLS_A_MINUTE" "[I" (.ref (k.2 2)) A U H ∧ va_T .int (k.2 2) 5 (fun j => .int (ta_e ta_goes j)) A U H) ∧
  (va_Z "TwoArmies" "ABOVE" "[I" (.ref (k.2 3)) A U H ∧ va_T .int (k.2 3) 6 (fun j => .int (ta_e ta_over j)) A U H) ∧
  va_Z "java/lang/String" "COMPACT_STRINGS" "Z" (.int (nI 1)) A U H ∧
  vk_S 10 ta_len ta_byt (fun i => k.2 (10 + i)) (fun i => k.2 (20 + i)) A U H ∧ va_Zq "jdk/internal/util/Preconditions" "SIOOBE_FORMATTER" "Ljava/util/function/BiFunction;" A U H
def ta_R (k : ta_C) (U : State) : Prop := ∀ i, i < 10 → vk_R "TwoArmies$Reader" (ta_sidx.getD i 0) (ta_stx.getD i "") (k.2 (10 + i)) U
def ta_E (D : va_G) (k : ta_C) (A : Nat → Prop) (U : State) (H : Heap) : Prop := va_K D vwCl (ta_tys k) U ∧ ta_N U ∧ ta_R k U ∧ ta_St k A U H
theorem ta_St.moved {k : ta_C} {A : Nat → Prop} {u U : State} {H : Heap} (hvm : u.vm.Alike U.vm) (h : ta_St k A u H) : ta_St k A U H := by
  obtain ⟨⟨a1, a2⟩, ⟨b1, b2⟩, ⟨c1, c2⟩, ⟨d1, d2⟩, e1, f1, z1⟩ := h
  exact ⟨⟨a1.moved hvm, a2.moved hvm⟩, ⟨b1.moved hvm, b2.moved hvm⟩, ⟨c1.moved hvm, c2.moved hvm⟩, ⟨d1.moved hvm, d2.moved hvm⟩, e1.moved hvm, f1.moved hvm, z1.moved hvm⟩
theorem ta_St.kept {k : ta_C} {A : Nat → Prop} {U : State} {H H1 : Heap} (h : ta_St k A U H) (hq : ∀ a : Nat, a < H.size → ¬ A a → H1[a]? = H[a]?) : ta_St k A U H1 := by
  obtain ⟨⟨a1, a2⟩, ⟨b1, b2⟩, ⟨c1, c2⟩, ⟨d1, d2⟩, e1, f1, z1⟩ := h
  exact ⟨⟨a1.kept hq, a2.kept hq⟩, ⟨b1.kept hq, b2.kept hq⟩, ⟨c1.kept hq, c2.kept hq⟩, ⟨d1.kept hq, d2.kept hq⟩, e1.kept hq, f1.kept hq, z1.kept hq⟩
theorem ta_St.narrow {k : ta_C} {A B : Nat → Prop} {U : State} {H : Heap} (h : ta_St k A U H) (hAB : ∀ q, B q → A q) : ta_St k B U H := by
  obtain ⟨⟨a1, a2⟩, ⟨b1, b2⟩, ⟨c1, c2⟩, ⟨d1, d2⟩, e1, f1, z1⟩ := h
  exact ⟨⟨a1.narrow hAB, a2.narrow hAB⟩, ⟨b1.narrow hAB, b2.narrow hAB⟩, ⟨c1.narrow hAB, c2.narrow hAB⟩, ⟨d1.narrow hAB, d2.narrow hAB⟩, e1.narrow hAB, f1.narrow hAB, z1.narrow hAB⟩
theorem ta_E.go {D : va_G} {k : ta_C} {A B : Nat → Prop} {s U : State} {H : Heap} (h : ta_E D k A s s.heap) (hk : ∀ q : Nat, q < s.heap.size → ¬ A q → H[q]? = s.heap[q]?) (hW : s.WarmedH U.vm) (hAB : ∀ q, B q → A q) : ta_E D k B U H :=
  ⟨va_K.moved hW.alike h.1, h.2.1.warm hW, fun i hi => vk_R.warm hW (h.2.2.1 i hi), ((h.2.2.2.kept hk).narrow hAB).moved hW.alike⟩
theorem ta_E.same {D : va_G} {k : ta_C} {A : Nat → Prop} {u U : State} {H : Heap} (hv : u.vm = U.vm) (h : ta_E D k A u H) : ta_E D k A U H :=
  have ha : u.vm.Alike U.vm := by rw [hv]; exact Vm.Alike.refl U.vm
  ⟨va_K.moved ha h.1, h.2.1.same hv, fun i hi => vk_R.same hv.symm (h.2.2.1 i hi), h.2.2.2.moved ha⟩
/-! contracts -/
def tz (y : MethodName) (cc : ByteArray) (n : Nat) (r : Option FieldType) : List Cond := Cond.code y cc n r :: wsL_law
def ta_Pre (D : va_G) (k : ta_C) (As : List Value) (Wc : va_W) (sz : Nat) : Array Value → State → Prop := va_Pc As (fun U => U.heap.size = sz ∧ va_P D vwCl Wc U.heap ∧ ta_E D k (va_A Wc sz) U U.heap ∧ va_D (fun _ => True) Wc)
def ta_Qi {S : Type} (D : va_G) (post : Int32 → S → Prop) (Wq : S → va_W) (A : Nat → Prop) : Array Value → State → Outcome → State → Prop := va_Qi post (fun u t => va_P D vwCl (Wq u) t.heap ∧ va_D A (Wq u)) A
def ta_Qv {S : Type} (D : va_G) (post : S → Prop) (Wq : S → va_W) (A : Nat → Prop) : Array Value → State → Outcome → State → Prop := va_Qv post (fun u t => va_P D vwCl (Wq u) t.heap ∧ va_D A (Wq u)) A
/-- a method that answers an int and makes nothing -/
def ta_Mi {S : Type} (l : Launch) (D : va_G) (k : ta_C) (y : MethodName) (cc : ByteArray) (n : Nat) (r : FieldType) (fr lo : Nat) (As : List Value) (Wc : va_W) (post : Int32 → S → Prop) (Wq : S → va_W) : Prop :=
  ∀ sz : Nat, Met l y (tz y cc n (some r)) ({ frames := fr, cells := 0, slots := 0, locals := lo }) (ta_Pre D k As Wc sz) (ta_Qi D post Wq (va_A Wc sz)) 0 0 (va_A Wc sz)
/-- a method without an answer that makes nothing -/
def ta_Mv {S : Type} (l : Launch) (D : va_G) (k : ta_C) (y : MethodName) (cc : ByteArray) (n : Nat) (fr lo : Nat) (As : List Value) (Wc : va_W) (post : S → Prop) (Wq : S → va_W) : Prop :=
  ∀ sz : Nat, Met l y (tz y cc n none) ({ frames := fr, cells := 0, slots := 0, locals := lo }) (ta_Pre D k As Wc sz) (ta_Qv D post Wq (va_A Wc sz)) 0 0 (va_A Wc sz)
theorem ta_blind (D : va_G) (k : ta_C) (As : List Value) (Wc : va_W) (sz : Nat) : FrameBlind (ta_Pre D k As Wc sz) := fun a U g mk h => ⟨h.1, h.2.1, h.2.2.1, ta_E.same (u := U) (U := U.calling g mk a) rfl h.2.2.2.1, h.2.2.2.2⟩
/-- where a method stands: the machine, its code, its class, the words, the environment at its entry -/
def ta_At (p : Program) (l : Launch) (D : va_G) (k : ta_C) (s : State) (m : MethodId) (args : Array Value) (c : Code) (own : String) (cc : ByteArray) (nL : Nat) (A : Nat → Prop) : Prop :=
  CallFix p m c cc nL s args wsL_law own ∧ ta_E D k A s s.heap ∧ ∀ q, s.heap.size ≤ q → A q

section TAB
variable {p : Program} {l : Launch} {D : va_G} {k : ta_C} {cc : ByteArray}
theorem ta_enter_i {S : Type} {y : MethodName} {n fr lo : Nat} {r0 : FieldType} {As : List Value} {Wc : va_W} {post : Int32 → S → Prop} {Wq : S → va_W} (hy : plainName y.cls = true) (hn : (lg_sl As).length ≤ n)
    (body : ∀ (p : Program) (e : Env) (s : State) (m : MethodId) (below : List Frame) (meth : Method) (c : Code) (A : Nat → Prop) (ls : Array Slot) (Q : State → Prop), ta_At p l D k s m As.toArray c y.cls cc n A →
      (∀ (r : Int32) (u : S) {H : Heap} {locs : List Loc} {ls : Array Slot} {pc : Nat}, decode cc pc = .ok (.ireturn, 1) → narrow r0 (.int r) = .int r → post r u → va_P D vwCl (Wq u) H → va_D A (Wq u) → va_S A s.heap H locs → W p l e ({ frames := fr, cells := 0, slots := 0, locals := lo }) s m As.toArray below meth c H locs 0 0 Q (F0 m pc ls [.int r])) →
      va_P D vwCl Wc s.heap → va_D A Wc → va_S A s.heap s.heap [] → lv_has ls n (lv_args 0 As) →
      W p l e ({ frames := fr, cells := 0, slots := 0, locals := lo }) s m As.toArray below meth c s.heap [] 0 0 Q (F0 m 0 ls [])) : ta_Mi l D k y cc n r0 fr lo As Wc post Wq := by
  intro sz
  refine Met.ofW (cc := cc) (maxL := n) (ret := some r0) hy rfl ?_
  intro p e s m args below meth c s₁ B hml hv
  obtain ⟨rfl, hsz, hP, hE, hD0⟩ := hv
  subst hsz
  have hts := atoms_spec (ws := tz y cc n (some r0)) B.pre
  have hown : s.vm.findClass y.cls = some m.cls := findClass_of_methodNamed B.named
  have hl := lv_entry As (n := n) hn
  have hr := B.returns
  have hlk := B.notSynchronized
  have hx := B.exec
  have hb := B.bytes
  rw [lg_entry_eq]
  exact body p e s m below meth c (va_A Wc s.heap.size) _ _ ⟨⟨B.exec, B.bytes, hml, hown, fun w h => hts w (List.mem_cons_of_mem _ h)⟩, hE, fun q h => Or.inr h⟩
    (fun r u {H} {locs} {ls} {pc} hdg hnr hp hP hD hS => W.zret hx hb hr hnr (fun t ht hW => ⟨⟨r, u, rfl, hp, by rw [ht]; exact hP, hD⟩, hS.F ht⟩) hS.2.2 hdg hlk) hP (hD0.self (sz := s.heap.size)) va_S.rf hl
theorem ta_enter_v {S : Type} {y : MethodName} {n fr lo : Nat} {As : List Value} {Wc : va_W} {post : S → Prop} {Wq : S → va_W} (hy : plainName y.cls = true) (hn : (lg_sl As).length ≤ n)
    (body : ∀ (p : Program) (e : Env) (s : State) (m : MethodId) (below : List Frame) (meth : Method) (c : Code) (A : Nat → Prop) (ls : Array Slot) (Q : State → Prop), ta_At p l D k s m As.toArray c y.cls cc n A →
      (∀ (u : S) {H : Heap} {locs : List Loc} {ls : Array Slot} {pc : Nat}, decode cc pc = .ok (.return_, 1) → post u → va_P D vwCl (Wq u) H → va_D A (Wq u) → va_S A s.heap H locs → W p l e ({ frames := fr, cells := 0, slots := 0, locals := lo }) s m As.toArray below meth c H locs 0 0 Q (F0 m pc ls [])) →
      va_P D vwCl Wc s.heap → va_D A Wc → va_S A s.heap s.heap [] → lv_has ls n (lv_args 0 As) →
      W p l e ({ frames := fr, cells := 0, slots := 0, locals := lo }) s m As.toArray below meth c s.heap [] 0 0 Q (F0 m 0 ls [])) : ta_Mv l D k y cc n fr lo As Wc post Wq := by
  intro sz
  refine Met.ofW (cc := cc) (maxL := n) (ret := none) hy rfl ?_
  intro p e s m args below meth c s₁ B hml hv
  obtain ⟨rfl, hsz, hP, hE, hD0⟩ := hv
  subst hsz
  have hts := atoms_spec (ws := tz y cc n none) B.pre
  have hown : s.vm.findClass y.cls = some m.cls := findClass_of_methodNamed B.named
  have hl := lv_entry As (n := n) hn
  have hr := B.returns
  have hlk := B.notSynchronized
  have hx := B.exec
  have hb := B.bytes
  rw [lg_entry_eq]
  exact body p e s m below meth c (va_A Wc s.heap.size) _ _ ⟨⟨B.exec, B.bytes, hml, hown, fun w h => hts w (List.mem_cons_of_mem _ h)⟩, hE, fun q h => Or.inr h⟩
    (fun u {H} {locs} {ls} {pc} hdg hp hP hD hS => W.vret hx hb hr (fun t ht hW => ⟨⟨u, rfl, hp, by rw [ht]; exact hP, hD⟩, hS.F ht⟩) hS.2.2 hdg hlk) hP (hD0.self (sz := s.heap.size)) va_S.rf hl
end TAB

theorem ta_fm {ws wc : va_W} {is : List Nat} (h : is.map (fun i => ws[i]?) = wc.map some) : is.filterMap (fun i => ws[i]?) = wc := by
  have h1 : is.filterMap (fun i => ws[i]?) = (is.map (fun i => ws[i]?)).filterMap id := by rw [List.filterMap_map]; rfl
  rw [h1, h, List.filterMap_map]
  induction wc with
  | nil => rfl
  | cons a l ih => simp
section TAR
variable {p : Program} {l : Launch} {e : Env} {R : Room} {s : State} {m : MethodId} {args : Array Value} {below : List Frame} {meth : Method} {c : Code} {H : Heap} {locs : List Loc} {cells slots : Nat} {Q : State → Prop} {cc : ByteArray} {pc : Nat} {ls : Array Slot} {rest : List Value}
variable {D : va_G} {k : ta_C} {own : String} {nL : Nat} {A : Nat → Prop} {ws : va_W} {a : Nat}
theorem ta_val {x y : Int32} (h : x = y) (kk : W p l e R s m args below meth c H locs cells slots Q (F0 m pc ls (.int y :: rest))) : W p l e R s m args below meth c H locs cells slots Q (F0 m pc ls (.int x :: rest)) := by rw [h]; exact kk
theorem ta_iconst (C : ta_At p l D k s m args c own cc nL A) {n : Int} (v : Nat) (hdg : decode cc pc = .ok (.iconst n, 1)) (hv : Int32.ofInt n = nI v) (kk : W p l e R s m args below meth c H locs cells slots Q (F0 m (pc + 1) ls (.int (nI v) :: rest))) : W p l e R s m args below meth c H locs cells slots Q (F0 m pc ls rest) := lv_iconst C.1.1 C.1.2.1 hdg hv kk
theorem ta_bipush (C : ta_At p l D k s m args c own cc nL A) {n : Int} (v : Nat) (hdg : decode cc pc = .ok (.bipush n, 2)) (hv : (Int8.ofInt n).toInt32 = nI v) (kk : W p l e R s m args below meth c H locs cells slots Q (F0 m (pc + 2) ls (.int (nI v) :: rest))) : W p l e R s m args below meth c H locs cells slots Q (F0 m pc ls rest) := lv_bipush C.1.1 C.1.2.1 hdg hv kk
theorem ta_sipush (C : ta_At p l D k s m args c own cc nL A) {n : Int} (v : Nat) (hdg : decode cc pc = .ok (.sipush n, 3)) (hv : (Int16.ofInt n).toInt32 = nI v) (kk : W p l e R s m args below meth c H locs cells slots Q (F0 m (pc + 3) ls (.int (nI v) :: rest))) : W p l e R s m args below meth c H locs cells slots Q (F0 m pc ls rest) := lv_sipush C.1.1 C.1.2.1 hdg hv kk
theorem ta_iadd (C : ta_At p l D k s m args c own cc nL A) {a b : Nat} (hdg : decode cc pc = .ok (.iadd, 1)) (kk : W p l e R s m args below meth c H locs cells slots Q (F0 m (pc + 1) ls (.int (nI (a + b)) :: rest))) : W p l e R s m args below meth c H locs cells slots Q (F0 m pc ls (.int (nI b) :: .int (nI a) :: rest)) := lv_iadd C.1.1 C.1.2.1 hdg (by rw [nI_add]; exact kk)
theorem ta_isub (C : ta_At p l D k s m args c own cc nL A) {a b : Nat} (h : b ≤ a) (hdg : decode cc pc = .ok (.isub, 1)) (kk : W p l e R s m args below meth c H locs cells slots Q (F0 m (pc + 1) ls (.int (nI (a - b)) :: rest))) : W p l e R s m args below meth c H locs cells slots Q (F0 m pc ls (.int (nI b) :: .int (nI a) :: rest)) := lv_isub C.1.1 C.1.2.1 hdg (by rw [pk_sub h]; exact kk)
theorem ta_imul (C : ta_At p l D k s m args c own cc nL A) {a b : Nat} (hdg : decode cc pc = .ok (.imul, 1)) (kk : W p l e R s m args below meth c H locs cells slots Q (F0 m (pc + 1) ls (.int (nI (a * b)) :: rest))) : W p l e R s m args below meth c H locs cells slots Q (F0 m pc ls (.int (nI b) :: .int (nI a) :: rest)) := lv_imul C.1.1 C.1.2.1 hdg (by rw [pk_mul]; exact kk)
theorem ta_idiv (C : ta_At p l D k s m args c own cc nL A) {a b : Nat} (ha : a < 2147483648) (h0 : 0 < b) (hb : b < 2147483648) (hdg : decode cc pc = .ok (.idiv, 1)) (kk : W p l e R s m args below meth c H locs cells slots Q (F0 m (pc + 1) ls (.int (nI (a / b)) :: rest))) : W p l e R s m args below meth c H locs cells slots Q (F0 m pc ls (.int (nI b) :: .int (nI a) :: rest)) := lv_idiv C.1.1 C.1.2.1 hdg (nI_ne0 h0 hb) (by rw [pk_div ha h0 hb]; exact kk)
theorem ta_irem (C : ta_At p l D k s m args c own cc nL A) {a b : Nat} (ha : a < 2147483648) (h0 : 0 < b) (hb : b < 2147483648) (hdg : decode cc pc = .ok (.irem, 1)) (kk : W p l e R s m args below meth c H locs cells slots Q (F0 m (pc + 1) ls (.int (nI (a % b)) :: rest))) : W p l e R s m args below meth c H locs cells slots Q (F0 m pc ls (.int (nI b) :: .int (nI a) :: rest)) := lv_irem C.1.1 C.1.2.1 hdg (nI_ne0 h0 hb) (by rw [pk_rem ha h0 hb]; exact kk)
theorem ta_iand (C : ta_At p l D k s m args c own cc nL A) {a b : Nat} (j : Nat) (ha : a < 4294967296) (hj : (nI b).toBitVec.toNat = 2 ^ j - 1) (hdg : decode cc pc = .ok (.iand, 1)) (kk : W p l e R s m args below meth c H locs cells slots Q (F0 m (pc + 1) ls (.int (nI (a % 2 ^ j)) :: rest))) : W p l e R s m args below meth c H locs cells slots Q (F0 m pc ls (.int (nI b) :: .int (nI a) :: rest)) := lv_iand C.1.1 C.1.2.1 hdg (by rw [pk_andN ha j hj]; exact kk)
theorem ta_ceq (C : ta_At p l D k s m args c own cc nL A) {a b : Nat} {off : Int} {tgt : Nat} (ha : a < 4294967296) (hb : b < 4294967296) (hdg : decode cc pc = .ok (.if_icmp .eq off, 3)) (ht : (pc : Int) + off = (tgt : Int)) (kt : a = b → W p l e R s m args below meth c H locs cells slots Q (F0 m tgt ls rest)) (kf : a ≠ b → W p l e R s m args below meth c H locs cells slots Q (F0 m (pc + 3) ls rest)) : W p l e R s m args below meth c H locs cells slots Q (F0 m pc ls (.int (nI b) :: .int (nI a) :: rest)) := lv_icmp_eq C.1.1 C.1.2.1 hdg ht (fun h => kt ((ta_inj ha hb).mp h)) (fun h => kf (fun e => h ((ta_inj ha hb).mpr e)))
theorem ta_clt (C : ta_At p l D k s m args c own cc nL A) {a b : Nat} {off : Int} {tgt : Nat} (ha : a < 2147483648) (hb : b < 2147483648) (hdg : decode cc pc = .ok (.if_icmp .lt off, 3)) (ht : (pc : Int) + off = (tgt : Int)) (kt : a < b → W p l e R s m args below meth c H locs cells slots Q (F0 m tgt ls rest)) (kf : b ≤ a → W p l e R s m args below meth c H locs cells slots Q (F0 m (pc + 3) ls rest)) : W p l e R s m args below meth c H locs cells slots Q (F0 m pc ls (.int (nI b) :: .int (nI a) :: rest)) := lv_icmp_lt C.1.1 C.1.2.1 hdg ht (fun h => kt ((nI_ltI ha hb).mp h)) (fun h => kf (Nat.le_of_not_lt (fun e => h ((nI_ltI ha hb).mpr e))))
theorem ta_cge (C : ta_At p l D k s m args c own cc nL A) {a b : Nat} {off : Int} {tgt : Nat} (ha : a < 2147483648) (hb : b < 2147483648) (hdg : decode cc pc = .ok (.if_icmp .ge off, 3)) (ht : (pc : Int) + off = (tgt : Int)) (kt : b ≤ a → W p l e R s m args below meth c H locs cells slots Q (F0 m tgt ls rest)) (kf : a < b → W p l e R s m args below meth c H locs cells slots Q (F0 m (pc + 3) ls rest)) : W p l e R s m args below meth c H locs cells slots Q (F0 m pc ls (.int (nI b) :: .int (nI a) :: rest)) := lv_icmp_ge C.1.1 C.1.2.1 hdg ht (fun h => kt ((nI_leI hb ha).mp h)) (fun h => kf (Nat.lt_of_not_le (fun e => h ((nI_leI hb ha).mpr e))))
theorem ta_cgt (C : ta_At p l D k s m args c own cc nL A) {a b : Nat} {off : Int} {tgt : Nat} (ha : a < 2147483648) (hb : b < 2147483648) (hdg : decode cc pc = .ok (.if_icmp .gt off, 3)) (ht : (pc : Int) + off = (tgt : Int)) (kt : b < a → W p l e R s m args below meth c H locs cells slots Q (F0 m tgt ls rest)) (kf : a ≤ b → W p l e R s m args below meth c H locs cells slots Q (F0 m (pc + 3) ls rest)) : W p l e R s m args below meth c H locs cells slots Q (F0 m pc ls (.int (nI b) :: .int (nI a) :: rest)) := lv_icmp_gt C.1.1 C.1.2.1 hdg ht (fun h => kt ((nI_ltI hb ha).mp h)) (fun h => kf (Nat.le_of_not_lt (fun e => h ((nI_ltI hb ha).mpr e))))
theorem ta_cle (C : ta_At p l D k s m args c own cc nL A) {a b : Nat} {off : Int} {tgt : Nat} (ha : a < 2147483648) (hb : b < 2147483648) (hdg : decode cc pc = .ok (.if_icmp .le off, 3)) (ht : (pc : Int) + off = (tgt : Int)) (kt : a ≤ b → W p l e R s m args below meth c H locs cells slots Q (F0 m tgt ls rest)) (kf : b < a → W p l e R s m args below meth c H locs cells slots Q (F0 m (pc + 3) ls rest)) : W p l e R s m args below meth c H locs cells slots Q (F0 m pc ls (.int (nI b) :: .int (nI a) :: rest)) := lv_icmp_le C.1.1 C.1.2.1 hdg ht (fun h => kt ((nI_leI ha hb).mp h)) (fun h => kf (Nat.lt_of_not_le (fun e => h ((nI_leI ha hb).mpr e))))
theorem ta_cne (C : ta_At p l D k s m args c own cc nL A) {a b : Nat} {off : Int} {tgt : Nat} (ha : a < 4294967296) (hb : b < 4294967296) (hdg : decode cc pc = .ok (.if_icmp .ne off, 3)) (ht : (pc : Int) + off = (tgt : Int)) (kt : a ≠ b → W p l e R s m args below meth c H locs cells slots Q (F0 m tgt ls rest)) (kf : a = b → W p l e R s m args below meth c H locs cells slots Q (F0 m (pc + 3) ls rest)) : W p l e R s m args below meth c H locs cells slots Q (F0 m pc ls (.int (nI b) :: .int (nI a) :: rest)) := lv_icmp_ne C.1.1 C.1.2.1 hdg ht (fun h => kt (fun e => h ((ta_inj ha hb).mpr e))) (fun h => kf ((ta_inj ha hb).mp h))
theorem ta_ieq (C : ta_At p l D k s m args c own cc nL A) {a : Nat} {off : Int} {tgt : Nat} (ha : a < 4294967296) (hdg : decode cc pc = .ok (.ifCond .eq off, 3)) (ht : (pc : Int) + off = (tgt : Int)) (kt : a = 0 → W p l e R s m args below meth c H locs cells slots Q (F0 m tgt ls rest)) (kf : 0 < a → W p l e R s m args below meth c H locs cells slots Q (F0 m (pc + 3) ls rest)) : W p l e R s m args below meth c H locs cells slots Q (F0 m pc ls (.int (nI a) :: rest)) := lv_if_eq C.1.1 C.1.2.1 hdg ht (fun h => kt ((ta_in0 ha).mp h)) (fun h => kf (Nat.pos_of_ne_zero (fun e => h ((ta_in0 ha).mpr e))))
theorem ta_ine (C : ta_At p l D k s m args c own cc nL A) {a : Nat} {off : Int} {tgt : Nat} (ha : a < 4294967296) (hdg : decode cc pc = .ok (.ifCond .ne off, 3)) (ht : (pc : Int) + off = (tgt : Int)) (kt : 0 < a → W p l e R s m args below meth c H locs cells slots Q (F0 m tgt ls rest)) (kf : a = 0 → W p l e R s m args below meth c H locs cells slots Q (F0 m (pc + 3) ls rest)) : W p l e R s m args below meth c H locs cells slots Q (F0 m pc ls (.int (nI a) :: rest)) := lv_if_ne C.1.1 C.1.2.1 hdg ht (fun h => kt (Nat.pos_of_ne_zero (fun e => h ((ta_in0 ha).mpr e)))) (fun h => kf ((ta_in0 ha).mp h))
theorem ta_igt (C : ta_At p l D k s m args c own cc nL A) {a : Nat} {off : Int} {tgt : Nat} (ha : a < 2147483648) (hdg : decode cc pc = .ok (.ifCond .gt off, 3)) (ht : (pc : Int) + off = (tgt : Int)) (kt : 0 < a → W p l e R s m args below meth c H locs cells slots Q (F0 m tgt ls rest)) (kf : a = 0 → W p l e R s m args below meth c H locs cells slots Q (F0 m (pc + 3) ls rest)) : W p l e R s m args below meth c H locs cells slots Q (F0 m pc ls (.int (nI a) :: rest)) := lv_if_gt C.1.1 C.1.2.1 hdg ht (fun h => kt (Nat.pos_of_ne_zero (fun e => absurd h (by rw [e, nI_0]; decide)))) (fun h => kf ((by rcases Nat.eq_zero_or_pos a with e | e; exact e; exact absurd (show (0 : Int32) < nI a by rw [← nI_0]; exact (nI_ltI (by decide) ha).mpr e) h)))
theorem ta_ile (C : ta_At p l D k s m args c own cc nL A) {a : Nat} {off : Int} {tgt : Nat} (ha : a < 2147483648) (hdg : decode cc pc = .ok (.ifCond .le off, 3)) (ht : (pc : Int) + off = (tgt : Int)) (kt : a = 0 → W p l e R s m args below meth c H locs cells slots Q (F0 m tgt ls rest)) (kf : 0 < a → W p l e R s m args below meth c H locs cells slots Q (F0 m (pc + 3) ls rest)) : W p l e R s m args below meth c H locs cells slots Q (F0 m pc ls (.int (nI a) :: rest)) := lv_if_le C.1.1 C.1.2.1 hdg ht (fun h => kt ((by rcases Nat.eq_zero_or_pos a with e | e; exact e; exact absurd h (nI_nle e ha)))) (fun h => kf (Nat.pos_of_ne_zero (fun e => h (by rw [e, nI_0]; decide))))
theorem ta_ilt (C : ta_At p l D k s m args c own cc nL A) {a : Nat} {off : Int} {tgt : Nat} (ha : a < 2147483648) (hdg : decode cc pc = .ok (.ifCond .lt off, 3)) (ht : (pc : Int) + off = (tgt : Int)) (kf : W p l e R s m args below meth c H locs cells slots Q (F0 m (pc + 3) ls rest)) : W p l e R s m args below meth c H locs cells slots Q (F0 m pc ls (.int (nI a) :: rest)) := lv_if_lt C.1.1 C.1.2.1 hdg ht (fun h => absurd h (nI_pos ha)) (fun _ => kf)
theorem ta_ige (C : ta_At p l D k s m args c own cc nL A) {a : Nat} {off : Int} {tgt : Nat} (ha : a < 2147483648) (hdg : decode cc pc = .ok (.ifCond .ge off, 3)) (ht : (pc : Int) + off = (tgt : Int)) (kt : W p l e R s m args below meth c H locs cells slots Q (F0 m tgt ls rest)) : W p l e R s m args below meth c H locs cells slots Q (F0 m pc ls (.int (nI a) :: rest)) := lv_if_ge C.1.1 C.1.2.1 hdg ht (fun _ => kt) (fun h => absurd (nI_pos' ha) h)
theorem ta_iald (C : ta_At p l D k s m args c own cc nL A) (hP : va_P D vwCl ws H) (q0 : Nat) {n : Nat} {f : Nat → Nat} (ha : ws[q0]? = some (a, .inl (k.1 0, n, .inl (ta_e f)))) {i : Nat} (hi : i < n) (hdg : decode cc pc = .ok (.iaload, 1)) (kk : W p l e R s m args below meth c H locs cells slots Q (F0 m (pc + 1) ls (.int (nI (f i)) :: rest))) (hn : n < 2147483648 := by decide) : W p l e R s m args below meth c H locs cells slots Q (F0 m pc ls (.int (nI i) :: .ref a :: rest)) := by
  have h1 : (nI i).toNatClampNeg = i := nI_clamp (Nat.lt_trans hi hn)
  refine va_iald C.1.1 C.1.2.1 C.2.1.1 hP q0 0 ha rfl (vp_in_nI hi hn) hdg ?_
  rw [h1]
  exact kk
theorem ta_zald (C : ta_At p l D k s m args c own cc nL A) (hP : va_P D vwCl ws H) (q0 : Nat) {n : Nat} {f : Nat → Nat} (ha : ws[q0]? = some (a, .inl (k.1 1, n, .inl (ta_e f)))) {i : Nat} (hi : i < n) (hdg : decode cc pc = .ok (.baload, 1)) (kk : W p l e R s m args below meth c H locs cells slots Q (F0 m (pc + 1) ls (.int (nI (f i)) :: rest))) (hn : n < 2147483648 := by decide) : W p l e R s m args below meth c H locs cells slots Q (F0 m pc ls (.int (nI i) :: .ref a :: rest)) := by
  have h1 : (nI i).toNatClampNeg = i := nI_clamp (Nat.lt_trans hi hn)
  refine va_zald C.1.1 C.1.2.1 C.2.1.1 hP q0 1 ha rfl (vp_in_nI hi hn) hdg ?_
  rw [h1]
  exact kk
theorem ta_iast (C : ta_At p l D k s m args c own cc nL A) (hP : va_P D vwCl ws H) (hD : va_D A ws) (hS : va_S A s.heap H locs) (q0 : Nat) {n : Nat} {f : Nat → Nat} (ha : ws[q0]? = some (a, .inl (k.1 0, n, .inl (ta_e f)))) {i v : Nat} (hi : i < n) (hdg : decode cc pc = .ok (.iastore, 1)) (kk : ∀ (H1 : Heap) (locs1 : List Loc), va_P D vwCl (ws.set q0 (a, .inl (k.1 0, n, .inl (ta_e (ta_u f i v))))) H1 → va_D A (ws.set q0 (a, .inl (k.1 0, n, .inl (ta_e (ta_u f i v))))) → va_S A s.heap H1 locs1 → W p l e R s m args below meth c H1 locs1 cells slots Q (F0 m (pc + 1) ls rest)) (hn : n < 2147483648 := by decide) : W p l e R s m args below meth c H locs cells slots Q (F0 m pc ls (.int (nI v) :: .int (nI i) :: .ref a :: rest)) := by
  have h1 : (nI i).toNatClampNeg = i := nI_clamp (Nat.lt_trans hi hn)
  refine va_iast C.1.1 C.1.2.1 C.2.1.1 hP hD hS q0 0 ha rfl (vp_in_nI hi hn) hdg ?_
  rw [h1, ta_upd]
  exact kk
theorem ta_zast (C : ta_At p l D k s m args c own cc nL A) (hP : va_P D vwCl ws H) (hD : va_D A ws) (hS : va_S A s.heap H locs) (q0 : Nat) {n : Nat} {f : Nat → Nat} (ha : ws[q0]? = some (a, .inl (k.1 1, n, .inl (ta_e f)))) {i v : Nat} (hi : i < n) (hv : vp_nar .boolean (nI v) = nI v) (hdg : decode cc pc = .ok (.bastore, 1)) (kk : ∀ (H1 : Heap) (locs1 : List Loc), va_P D vwCl (ws.set q0 (a, .inl (k.1 1, n, .inl (ta_e (ta_u f i v))))) H1 → va_D A (ws.set q0 (a, .inl (k.1 1, n, .inl (ta_e (ta_u f i v))))) → va_S A s.heap H1 locs1 → W p l e R s m args below meth c H1 locs1 cells slots Q (F0 m (pc + 1) ls rest)) (hn : n < 2147483648 := by decide) : W p l e R s m args below meth c H locs cells slots Q (F0 m pc ls (.int (nI v) :: .int (nI i) :: .ref a :: rest)) := by
  have h1 : (nI i).toNatClampNeg = i := nI_clamp (Nat.lt_trans hi hn)
  refine va_zast C.1.1 C.1.2.1 C.2.1.1 hP hD hS q0 1 ha rfl (vp_in_nI hi hn) hdg ?_
  rw [h1, hv, ta_upd]
  exact kk
theorem ta_aald (C : ta_At p l D k s m args c own cc nL A) (hP : va_P D vwCl ws H) (q0 t0 : Nat) {n : Nat} {cA : ClassId} {Cl : String} {f : Nat → Option Nat} (ha : ws[q0]? = some (a, .inl (cA, n, .inr (.inr (.inr (.inr f)))))) (ht : (ta_tys k)[t0]? = some (cA, .object Cl)) {i x : Nat} (hi : i < n) (hx : f i = some x) (hdg : decode cc pc = .ok (.aaload, 1)) (kk : W p l e R s m args below meth c H locs cells slots Q (F0 m (pc + 1) ls (.ref x :: rest))) (hn : n < 2147483648 := by decide) : W p l e R s m args below meth c H locs cells slots Q (F0 m pc ls (.int (nI i) :: .ref a :: rest)) := by
  have h1 : (nI i).toNatClampNeg = i := nI_clamp (Nat.lt_trans hi hn)
  refine va_aldq C.1.1 C.1.2.1 C.2.1.1 hP q0 t0 ha ht (vp_in_nI hi hn) hdg ?_
  rw [h1, hx]
  exact kk
theorem ta_alen (C : ta_At p l D k s m args c own cc nL A) (hP : va_P D vwCl ws H) (q0 t0 : Nat) {cA : ClassId} {x : vp_A} (ha : ws[q0]? = some (a, .inl (cA, x))) {ty : FieldType} (ht : (ta_tys k)[t0]? = some (cA, ty)) (v : Nat) (hv : x.1 = v) (hdg : decode cc pc = .ok (.arraylength, 1)) (kk : W p l e R s m args below meth c H locs cells slots Q (F0 m (pc + 1) ls (.int (nI v) :: rest))) : W p l e R s m args below meth c H locs cells slots Q (F0 m pc ls (.ref a :: rest)) := va_alen C.1.1 C.1.2.1 C.2.1.1 hP q0 t0 ha ht (v := nI v) (by rw [hv]; rfl) hdg kk
theorem ta_get (C : ta_At p l D k s m args c own cc nL A) (hP : va_P D vwCl ws H) (q0 : Nat) {Cl : String} {T : u_T} {N ci index : Nat} {fs : List Value} (hin : ∀ w ∈ u_ws Cl T N, w ∈ wsL_law) (he : ws[q0]? = some (a, .inr (ci, fs))) (hc : vwCl[ci]? = some (Cl, T, N)) (j : Nat) (hk : j < N) (hlink : Cond.fieldLink own index (T j).1 (T j).2.1 (T j).2.2.1 ∈ wsL_law) {v : Value} (hv : fs[j]? = some v) (hdg : decode cc pc = .ok (.getfield index, 3)) (kk : W p l e R s m args below meth c H locs cells slots Q (F0 m (pc + 3) ls (v :: rest))) : W p l e R s m args below meth c H locs cells slots Q (F0 m pc ls (.ref a :: rest)) := va_get C.1.1 C.1.2.1 C.1.2.2.2.2 hin C.1.2.2.2.1 C.2.1.1 hP q0 he hc j hk (C.1.2.2.2.2 _ hlink) (fun _ h => h) hv hdg kk
theorem ta_getN (C : ta_At p l D k s m args c own cc nL A) (hP : va_P D vwCl ws H) (q0 : Nat) {Cl : String} {T : u_T} {N ci index : Nat} {fs : List Value} (hin : ∀ w ∈ u_ws Cl T N, w ∈ wsL_law) (he : ws[q0]? = some (a, .inr (ci, fs))) (hc : vwCl[ci]? = some (Cl, T, N)) (j : Nat) (hk : j < N) (i : Nat) (hq : ta_nf[i]? = some (own, index, (T j).1, (T j).2.1, (T j).2.2.1)) {v : Value} (hv : fs[j]? = some v) (hdg : decode cc pc = .ok (.getfield index, 3)) (kk : W p l e R s m args below meth c H locs cells slots Q (F0 m (pc + 3) ls (v :: rest))) : W p l e R s m args below meth c H locs cells slots Q (F0 m pc ls (.ref a :: rest)) := va_getN C.1.1 C.1.2.1 C.1.2.2.2.2 hin C.1.2.2.2.1 C.2.1.1 hP q0 he hc j hk ((C.2.1.2.1.1 _ (List.mem_of_getElem? hq)).use rfl) (fun _ h => h) hv hdg kk
theorem ta_put (C : ta_At p l D k s m args c own cc nL A) (hP : va_P D vwCl ws H) (hD : va_D A ws) (hS : va_S A s.heap H locs) (q0 : Nat) {Cl : String} {T : u_T} {N ci index : Nat} {fs : List Value} (hin : ∀ w ∈ u_ws Cl T N, w ∈ wsL_law) (ty0 : Nat → FieldType) (hty : ∀ k, k < N → parseFieldDescriptor (T k).2.2.1 = some (ty0 k)) (hnm : ∀ a, a < N → ∀ b, b < N → a ≠ b → (T a).2.1 ≠ (T b).2.1) (he : ws[q0]? = some (a, .inr (ci, fs))) (hc : vwCl[ci]? = some (Cl, T, N)) (j : Nat) (hk : j < N) (hlink : Cond.fieldLink own index (T j).1 (T j).2.1 (T j).2.2.1 ∈ wsL_law) (hfin : (T j).2.2.2 = false) {v : Value} (hn : narrow (ty0 j) v = v) (hfit : fits (ty0 j) v = true) (hl : j < fs.length) (hdg : decode cc pc = .ok (.putfield index, 3)) (kk : ∀ (H1 : Heap) (locs1 : List Loc), va_P D vwCl (ws.set q0 (a, .inr (ci, fs.set j v))) H1 → va_D A (ws.set q0 (a, .inr (ci, fs.set j v))) → va_S A s.heap H1 locs1 → W p l e R s m args below meth c H1 locs1 cells slots Q (F0 m (pc + 3) ls rest)) : W p l e R s m args below meth c H locs cells slots Q (F0 m pc ls (v :: .ref a :: rest)) := va_put C.1.1 C.1.2.1 C.1.2.2.2.2 hin ty0 hty hnm C.1.2.2.2.1 C.2.1.1 hP hD hS q0 he hc j hk (C.1.2.2.2.2 _ hlink) (fun _ h => h) hfin (hty j hk) hn hfit hl hdg kk
theorem ta_putN (C : ta_At p l D k s m args c own cc nL A) (hP : va_P D vwCl ws H) (hD : va_D A ws) (hS : va_S A s.heap H locs) (q0 : Nat) {Cl : String} {T : u_T} {N ci index : Nat} {fs : List Value} (hin : ∀ w ∈ u_ws Cl T N, w ∈ wsL_law) (ty0 : Nat → FieldType) (hty : ∀ k, k < N → parseFieldDescriptor (T k).2.2.1 = some (ty0 k)) (hnm : ∀ a, a < N → ∀ b, b < N → a ≠ b → (T a).2.1 ≠ (T b).2.1) (he : ws[q0]? = some (a, .inr (ci, fs))) (hc : vwCl[ci]? = some (Cl, T, N)) (j : Nat) (hk : j < N) (i : Nat) (hq : ta_nf[i]? = some (own, index, (T j).1, (T j).2.1, (T j).2.2.1)) (hfin : (T j).2.2.2 = false) {v : Value} (hn : narrow (ty0 j) v = v) (hfit : fits (ty0 j) v = true) (hl : j < fs.length) (hdg : decode cc pc = .ok (.putfield index, 3)) (kk : ∀ (H1 : Heap) (locs1 : List Loc), va_P D vwCl (ws.set q0 (a, .inr (ci, fs.set j v))) H1 → va_D A (ws.set q0 (a, .inr (ci, fs.set j v))) → va_S A s.heap H1 locs1 → W p l e R s m args below meth c H1 locs1 cells slots Q (F0 m (pc + 3) ls rest)) : W p l e R s m args below meth c H locs cells slots Q (F0 m pc ls (v :: .ref a :: rest)) := va_putN C.1.1 C.1.2.1 C.1.2.2.2.2 hin ty0 hty hnm C.1.2.2.2.1 C.2.1.1 hP hD hS q0 he hc j hk ((C.2.1.2.1.1 _ (List.mem_of_getElem? hq)).use rfl) (fun _ h => h) hfin (hty j hk) hn hfit hl hdg kk
theorem ta_callVi {S : Type} {y : MethodName} {bytes : ByteArray} {maxL index fr lo : Nat} {As rest0 st0 : List Value} {Wc Wr : va_W} {Wq : S → va_W} {r0 : FieldType} {b : Nat} {post : Int32 → S → Prop} (C : ta_At p l D k s m args c own cc nL A) (hP : va_P D vwCl ws H) (hD : va_D A ws) (hS : va_S A s.heap H locs) (hM : ta_Mi l D k y bytes maxL r0 fr lo (.ref b :: As) Wc post Wq) (q0 : Nat) {ci : Nat} {fs : List Value} {cq : vw_C} (he : ws[q0]? = some (b, .inr (ci, fs))) (hc : vwCl[ci]? = some cq) (hcq : cq.1 = y.cls) (isC isR : List Nat) (hC : isC.map (fun i => ws[i]?) = Wc.map some) (hR : isR.map (fun i => ws[i]?) = Wr.map some) (hnC : va_nd isC = true) (hn : va_nd isR = true) (hdis : ∀ i ∈ isR, i ∉ isC) (hcode : Cond.code y bytes maxL (some r0) ∈ wsL_law) (hl : Cond.methodLink own index y ∈ wsL_law) (hini : Cond.initialized y.cls ∈ wsL_law) (hin : Cond.instanceMethod y ∈ wsL_law) (hse : Cond.selects y.cls y y ∈ wsL_law) (hd : (y.cls ≠ "java/lang/invoke/MethodHandle" ∧ y.cls ≠ "java/lang/invoke/VarHandle" ∧ (parseMethodDescriptor y.desc).map (fun d => d.parameters.length) = some As.length)) (hroom : fr + 1 ≤ R.frames ∧ 8 + (maxL + 11) + lo ≤ R.locals) (hcs : cells ≤ R.cells ∧ slots ≤ R.slots) (hsz : ls.size = nL) (hst : st0 = As.reverse ++ .ref b :: rest0) (hcat : (rest0.map fun v => v.category).sum ≤ 8) (hdg : decode cc pc = .ok (.invokevirtual index, 3)) (kk : ∀ (r : Int32) (u : S) (H1 : Heap) (locs1 : List Loc), post r u → va_P D vwCl (Wr ++ Wq u) H1 → va_D A (Wr ++ Wq u) → va_S A s.heap H1 locs1 → W p l e R s m args below meth c H1 locs1 cells slots Q (F0 m (pc + 3) ls (.int r :: rest0))) : W p l e R s m args below meth c H locs cells slots Q (F0 m pc ls st0) := by
  obtain ⟨⟨hx, hb, hml, hown, hts⟩, hE, hA⟩ := C
  have hPc := hP.sub isC (ws' := Wc) (ta_fm hC)
  have hDc := hD.sub isC hnC hC
  have hFc := va_free (wc := Wc) hD hS hA isC hC
  have hG : GoodIn wsL_law (tz y bytes maxL (some r0)) := fun w h => (List.mem_cons.mp h).elim (fun e => by rw [e]; exact wsL_self _ hcode) (wsL_self w)
  have hB : CallB R s args own index y bytes maxL (some r0) (tz y bytes maxL (some r0)) ({ frames := fr, cells := 0, slots := 0, locals := lo }) 0 0 As.length := callB_of As.length hts hG rfl rfl rfl (hts _ hini) (hts _ hl) hd hroom
  have hpre : ∀ U : State, U.heap = H → s.WarmedH U.vm → ta_Pre D k (.ref b :: As) Wc H.size (.ref b :: As).toArray U := fun U hU hW => ⟨rfl, by rw [hU], by rw [hU]; exact hPc, by rw [hU]; exact hE.go hS.2.1 hW hFc, hDc.weaken (fun _ _ _ _ => trivial)⟩
  subst hst
  refine va_calli (va_runV (As := As) (rest := rest0) (C := y.cls) ⟨hx, hb, hml, hown, hts⟩ (hM H.size) ⟨hB, hts _ hin, hts _ hse⟩ ⟨ta_blind D k _ Wc _, by rw [← hcq]; exact va_recv hE.1 hP hc he, hpre⟩ rfl rfl hsz rfl (lv_room hcat) hdg hcs) hS (fun q _ h => hFc q h) hFc (fun r u t H1 locs1 ht hvm hw hB1 hz1 hk1 hS1 => ?_)
  obtain ⟨hP1, hD1⟩ := hB1
  rw [ht] at hP1
  obtain ⟨hP2, hD2⟩ := va_join (wr := Wr) hP hD isC isR hC hR hn hdis hk1 hFc hP1 hD1
  exact kk r u H1 locs1 hw hP2 hD2 hS1
theorem ta_callSi {S : Type} {y : MethodName} {bytes : ByteArray} {maxL index fr lo : Nat} {As rest0 st0 : List Value} {Wc Wr : va_W} {Wq : S → va_W} {r0 : FieldType} {post : Int32 → S → Prop} (C : ta_At p l D k s m args c own cc nL A) (hP : va_P D vwCl ws H) (hD : va_D A ws) (hS : va_S A s.heap H locs) (hM : ta_Mi l D k y bytes maxL r0 fr lo (As) Wc post Wq) (isC isR : List Nat) (hC : isC.map (fun i => ws[i]?) = Wc.map some) (hR : isR.map (fun i => ws[i]?) = Wr.map some) (hnC : va_nd isC = true) (hn : va_nd isR = true) (hdis : ∀ i ∈ isR, i ∉ isC) (hcode : Cond.code y bytes maxL (some r0) ∈ wsL_law) (hl : Cond.methodLink own index y ∈ wsL_law) (hini : Cond.initialized y.cls ∈ wsL_law) (hstt : Cond.static y ∈ wsL_law) (hd : (y.cls ≠ "java/lang/invoke/MethodHandle" ∧ y.cls ≠ "java/lang/invoke/VarHandle" ∧ (parseMethodDescriptor y.desc).map (fun d => d.parameters.length) = some As.length)) (hroom : fr + 1 ≤ R.frames ∧ 8 + (maxL + 11) + lo ≤ R.locals) (hcs : cells ≤ R.cells ∧ slots ≤ R.slots) (hsz : ls.size = nL) (hst : st0 = As.reverse ++ rest0) (hcat : (rest0.map fun v => v.category).sum ≤ 8) (hdg : decode cc pc = .ok (.invokestatic index, 3)) (kk : ∀ (r : Int32) (u : S) (H1 : Heap) (locs1 : List Loc), post r u → va_P D vwCl (Wr ++ Wq u) H1 → va_D A (Wr ++ Wq u) → va_S A s.heap H1 locs1 → W p l e R s m args below meth c H1 locs1 cells slots Q (F0 m (pc + 3) ls (.int r :: rest0))) : W p l e R s m args below meth c H locs cells slots Q (F0 m pc ls st0) := by
  obtain ⟨⟨hx, hb, hml, hown, hts⟩, hE, hA⟩ := C
  have hPc := hP.sub isC (ws' := Wc) (ta_fm hC)
  have hDc := hD.sub isC hnC hC
  have hFc := va_free (wc := Wc) hD hS hA isC hC
  have hG : GoodIn wsL_law (tz y bytes maxL (some r0)) := fun w h => (List.mem_cons.mp h).elim (fun e => by rw [e]; exact wsL_self _ hcode) (wsL_self w)
  have hB : CallB R s args own index y bytes maxL (some r0) (tz y bytes maxL (some r0)) ({ frames := fr, cells := 0, slots := 0, locals := lo }) 0 0 As.length := callB_of As.length hts hG rfl rfl rfl (hts _ hini) (hts _ hl) hd hroom
  have hpre : ∀ U : State, U.heap = H → s.WarmedH U.vm → ta_Pre D k (As) Wc H.size (As).toArray U := fun U hU hW => ⟨rfl, by rw [hU], by rw [hU]; exact hPc, by rw [hU]; exact hE.go hS.2.1 hW hFc, hDc.weaken (fun _ _ _ _ => trivial)⟩
  subst hst
  refine va_calli (va_runS (As := As) (rest := rest0) ⟨hx, hb, hml, hown, hts⟩ (hM H.size) ⟨hB, hts _ hstt⟩ ⟨ta_blind D k _ Wc _, hpre⟩ rfl rfl hsz rfl (lv_room hcat) hdg hcs) hS (fun q _ h => hFc q h) hFc (fun r u t H1 locs1 ht hvm hw hB1 hz1 hk1 hS1 => ?_)
  obtain ⟨hP1, hD1⟩ := hB1
  rw [ht] at hP1
  obtain ⟨hP2, hD2⟩ := va_join (wr := Wr) hP hD isC isR hC hR hn hdis hk1 hFc hP1 hD1
  exact kk r u H1 locs1 hw hP2 hD2 hS1
theorem ta_callVv {S : Type} {y : MethodName} {bytes : ByteArray} {maxL index fr lo : Nat} {As rest0 st0 : List Value} {Wc Wr : va_W} {Wq : S → va_W} {b : Nat} {post : S → Prop} (C : ta_At p l D k s m args c own cc nL A) (hP : va_P D vwCl ws H) (hD : va_D A ws) (hS : va_S A s.heap H locs) (hM : ta_Mv l D k y bytes maxL fr lo (.ref b :: As) Wc post Wq) (q0 : Nat) {ci : Nat} {fs : List Value} {cq : vw_C} (he : ws[q0]? = some (b, .inr (ci, fs))) (hc : vwCl[ci]? = some cq) (hcq : cq.1 = y.cls) (isC isR : List Nat) (hC : isC.map (fun i => ws[i]?) = Wc.map some) (hR : isR.map (fun i => ws[i]?) = Wr.map some) (hnC : va_nd isC = true) (hn : va_nd isR = true) (hdis : ∀ i ∈ isR, i ∉ isC) (hcode : Cond.code y bytes maxL none ∈ wsL_law) (hl : Cond.methodLink own index y ∈ wsL_law) (hini : Cond.initialized y.cls ∈ wsL_law) (hin : Cond.instanceMethod y ∈ wsL_law) (hse : Cond.selects y.cls y y ∈ wsL_law) (hd : (y.cls ≠ "java/lang/invoke/MethodHandle" ∧ y.cls ≠ "java/lang/invoke/VarHandle" ∧ (parseMethodDescriptor y.desc).map (fun d => d.parameters.length) = some As.length)) (hroom : fr + 1 ≤ R.frames ∧ 8 + (maxL + 11) + lo ≤ R.locals) (hcs : cells ≤ R.cells ∧ slots ≤ R.slots) (hsz : ls.size = nL) (hst : st0 = As.reverse ++ .ref b :: rest0) (hcat : (rest0.map fun v => v.category).sum ≤ 8) (hdg : decode cc pc = .ok (.invokevirtual index, 3)) (kk : ∀ (u : S) (H1 : Heap) (locs1 : List Loc), post u → va_P D vwCl (Wr ++ Wq u) H1 → va_D A (Wr ++ Wq u) → va_S A s.heap H1 locs1 → W p l e R s m args below meth c H1 locs1 cells slots Q (F0 m (pc + 3) ls (rest0))) : W p l e R s m args below meth c H locs cells slots Q (F0 m pc ls st0) := by
  obtain ⟨⟨hx, hb, hml, hown, hts⟩, hE, hA⟩ := C
  have hPc := hP.sub isC (ws' := Wc) (ta_fm hC)
  have hDc := hD.sub isC hnC hC
  have hFc := va_free (wc := Wc) hD hS hA isC hC
  have hG : GoodIn wsL_law (tz y bytes maxL none) := fun w h => (List.mem_cons.mp h).elim (fun e => by rw [e]; exact wsL_self _ hcode) (wsL_self w)
  have hB : CallB R s args own index y bytes maxL none (tz y bytes maxL none) ({ frames := fr, cells := 0, slots := 0, locals := lo }) 0 0 As.length := callB_of As.length hts hG rfl rfl rfl (hts _ hini) (hts _ hl) hd hroom
  have hpre : ∀ U : State, U.heap = H → s.WarmedH U.vm → ta_Pre D k (.ref b :: As) Wc H.size (.ref b :: As).toArray U := fun U hU hW => ⟨rfl, by rw [hU], by rw [hU]; exact hPc, by rw [hU]; exact hE.go hS.2.1 hW hFc, hDc.weaken (fun _ _ _ _ => trivial)⟩
  subst hst
  refine va_callv (va_runV (As := As) (rest := rest0) (C := y.cls) ⟨hx, hb, hml, hown, hts⟩ (hM H.size) ⟨hB, hts _ hin, hts _ hse⟩ ⟨ta_blind D k _ Wc _, by rw [← hcq]; exact va_recv hE.1 hP hc he, hpre⟩ rfl rfl hsz rfl (lv_room hcat) hdg hcs) hS (fun q _ h => hFc q h) hFc (fun u t H1 locs1 ht hvm hw hB1 hz1 hk1 hS1 => ?_)
  obtain ⟨hP1, hD1⟩ := hB1
  rw [ht] at hP1
  obtain ⟨hP2, hD2⟩ := va_join (wr := Wr) hP hD isC isR hC hR hn hdis hk1 hFc hP1 hD1
  exact kk u H1 locs1 hw hP2 hD2 hS1
theorem ta_callSv {S : Type} {y : MethodName} {bytes : ByteArray} {maxL index fr lo : Nat} {As rest0 st0 : List Value} {Wc Wr : va_W} {Wq : S → va_W} {post : S → Prop} (C : ta_At p l D k s m args c own cc nL A) (hP : va_P D vwCl ws H) (hD : va_D A ws) (hS : va_S A s.heap H locs) (hM : ta_Mv l D k y bytes maxL fr lo (As) Wc post Wq) (isC isR : List Nat) (hC : isC.map (fun i => ws[i]?) = Wc.map some) (hR : isR.map (fun i => ws[i]?) = Wr.map some) (hnC : va_nd isC = true) (hn : va_nd isR = true) (hdis : ∀ i ∈ isR, i ∉ isC) (hcode : Cond.code y bytes maxL none ∈ wsL_law) (hl : Cond.methodLink own index y ∈ wsL_law) (hini : Cond.initialized y.cls ∈ wsL_law) (hstt : Cond.static y ∈ wsL_law) (hd : (y.cls ≠ "java/lang/invoke/MethodHandle" ∧ y.cls ≠ "java/lang/invoke/VarHandle" ∧ (parseMethodDescriptor y.desc).map (fun d => d.parameters.length) = some As.length)) (hroom : fr + 1 ≤ R.frames ∧ 8 + (maxL + 11) + lo ≤ R.locals) (hcs : cells ≤ R.cells ∧ slots ≤ R.slots) (hsz : ls.size = nL) (hst : st0 = As.reverse ++ rest0) (hcat : (rest0.map fun v => v.category).sum ≤ 8) (hdg : decode cc pc = .ok (.invokestatic index, 3)) (kk : ∀ (u : S) (H1 : Heap) (locs1 : List Loc), post u → va_P D vwCl (Wr ++ Wq u) H1 → va_D A (Wr ++ Wq u) → va_S A s.heap H1 locs1 → W p l e R s m args below meth c H1 locs1 cells slots Q (F0 m (pc + 3) ls (rest0))) : W p l e R s m args below meth c H locs cells slots Q (F0 m pc ls st0) := by
  obtain ⟨⟨hx, hb, hml, hown, hts⟩, hE, hA⟩ := C
  have hPc := hP.sub isC (ws' := Wc) (ta_fm hC)
  have hDc := hD.sub isC hnC hC
  have hFc := va_free (wc := Wc) hD hS hA isC hC
  have hG : GoodIn wsL_law (tz y bytes maxL none) := fun w h => (List.mem_cons.mp h).elim (fun e => by rw [e]; exact wsL_self _ hcode) (wsL_self w)
  have hB : CallB R s args own index y bytes maxL none (tz y bytes maxL none) ({ frames := fr, cells := 0, slots := 0, locals := lo }) 0 0 As.length := callB_of As.length hts hG rfl rfl rfl (hts _ hini) (hts _ hl) hd hroom
  have hpre : ∀ U : State, U.heap = H → s.WarmedH U.vm → ta_Pre D k (As) Wc H.size (As).toArray U := fun U hU hW => ⟨rfl, by rw [hU], by rw [hU]; exact hPc, by rw [hU]; exact hE.go hS.2.1 hW hFc, hDc.weaken (fun _ _ _ _ => trivial)⟩
  subst hst
  refine va_callv (va_runS (As := As) (rest := rest0) ⟨hx, hb, hml, hown, hts⟩ (hM H.size) ⟨hB, hts _ hstt⟩ ⟨ta_blind D k _ Wc _, hpre⟩ rfl rfl hsz rfl (lv_room hcat) hdg hcs) hS (fun q _ h => hFc q h) hFc (fun u t H1 locs1 ht hvm hw hB1 hz1 hk1 hS1 => ?_)
  obtain ⟨hP1, hD1⟩ := hB1
  rw [ht] at hP1
  obtain ⟨hP2, hD2⟩ := va_join (wr := Wr) hP hD isC isR hC hR hn hdis hk1 hFc hP1 hD1
  exact kk u H1 locs1 hw hP2 hD2 hS1
end TAR
