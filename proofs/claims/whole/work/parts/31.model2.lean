/-! wide numbers: an int that may be negative, as a number below 2^32 -/
theorem ta_neg {x : Nat} (h : 2147483648 ≤ x) (hx : x < 4294967296) : nI x < 0 := by
  have h1 : (nI x).toBitVec.toNat = x := pk_tn hx
  rw [Int32.lt_iff_toInt_lt]
  show (nI x).toBitVec.toInt < (0 : Int32).toInt
  rw [BitVec.toInt_eq_toNat_cond, h1, show (0 : Int32).toInt = 0 by decide]
  split <;> omega
theorem ta_rlt {x b : Nat} (hx : x < 4294967296) (hb : b < 2147483648) : nI x < nI b ↔ (x < b ∨ 2147483648 ≤ x) := by
  rcases Nat.lt_or_ge x 2147483648 with h | h
  · rw [nI_ltI h hb]; omega
  · exact ⟨fun _ => Or.inr h, fun _ => Int32.lt_of_lt_of_le (ta_neg h hx) (nI_pos' hb)⟩
theorem ta_rgt {x b : Nat} (hx : x < 4294967296) (hb : b < 2147483648) : nI b < nI x ↔ (b < x ∧ x < 2147483648) := by
  rcases Nat.lt_or_ge x 2147483648 with h | h
  · rw [nI_ltI hb h]; omega
  · exact ⟨fun e => absurd (Int32.lt_trans (Int32.lt_of_le_of_lt (nI_pos' hb) e) (ta_neg h hx)) Int32.lt_irrefl, fun e => absurd e.2 (by omega)⟩
theorem ta_nle {a b : Int32} : ¬ a ≤ b ↔ b < a := Int32.not_le
theorem ta_rle {x b : Nat} (hx : x < 4294967296) (hb : b < 2147483648) : nI x ≤ nI b ↔ (x ≤ b ∨ 2147483648 ≤ x) := by
  rw [← Int32.not_lt, ta_rgt hx hb]; omega
theorem ta_rge {x b : Nat} (hx : x < 4294967296) (hb : b < 2147483648) : nI b ≤ nI x ↔ (b ≤ x ∧ x < 2147483648) := by
  rw [← Int32.not_lt, ta_rlt hx hb]; omega
theorem ta_r0 {x : Nat} (hx : x < 4294967296) : nI x < 0 ↔ 2147483648 ≤ x := by
  rw [← nI_0, ta_rlt hx (by decide)]; omega
theorem ta_olt {a b : Nat} (h : ¬ (a < b ∨ 2147483648 ≤ a)) : b ≤ a ∧ a < 2147483648 := by omega
theorem ta_oge {a b : Nat} (h : ¬ (b ≤ a ∧ a < 2147483648)) : a < b ∨ 2147483648 ≤ a := by omega
theorem ta_ogt {a b : Nat} (h : ¬ (b < a ∧ a < 2147483648)) : a ≤ b ∨ 2147483648 ≤ a := by omega
theorem ta_ole {a b : Nat} (h : ¬ (a ≤ b ∨ 2147483648 ≤ a)) : b < a ∧ a < 2147483648 := by omega
section TAW
variable {p : Program} {l : Launch} {e : Env} {R : Room} {s : State} {m : MethodId} {args : Array Value} {below : List Frame} {meth : Method} {c : Code} {H : Heap} {locs : List Loc} {cells slots : Nat} {Q : State → Prop} {cc : ByteArray} {pc : Nat} {ls : Array Slot} {rest : List Value}
variable {D : va_G} {k : ta_C} {own : String} {nL : Nat} {A : Nat → Prop} {ws : va_W} {a : Nat}
theorem ta_wlt (C : ta_At p l D k s m args c own cc nL A) {a b : Nat} {off : Int} {tgt : Nat} (ha : a < 4294967296) (hb : b < 2147483648) (hdg : decode cc pc = .ok (.if_icmp .lt off, 3)) (ht : (pc : Int) + off = (tgt : Int)) (kt : a < b ∨ 2147483648 ≤ a → W p l e R s m args below meth c H locs cells slots Q (F0 m tgt ls rest)) (kf : b ≤ a ∧ a < 2147483648 → W p l e R s m args below meth c H locs cells slots Q (F0 m (pc + 3) ls rest)) : W p l e R s m args below meth c H locs cells slots Q (F0 m pc ls (.int (nI b) :: .int (nI a) :: rest)) := lv_icmp_lt C.1.1 C.1.2.1 hdg ht (fun h => kt ((ta_rlt ha hb).mp h)) (fun h => kf (ta_olt (fun e => h ((ta_rlt ha hb).mpr e))))
theorem ta_wge (C : ta_At p l D k s m args c own cc nL A) {a b : Nat} {off : Int} {tgt : Nat} (ha : a < 4294967296) (hb : b < 2147483648) (hdg : decode cc pc = .ok (.if_icmp .ge off, 3)) (ht : (pc : Int) + off = (tgt : Int)) (kt : b ≤ a ∧ a < 2147483648 → W p l e R s m args below meth c H locs cells slots Q (F0 m tgt ls rest)) (kf : a < b ∨ 2147483648 ≤ a → W p l e R s m args below meth c H locs cells slots Q (F0 m (pc + 3) ls rest)) : W p l e R s m args below meth c H locs cells slots Q (F0 m pc ls (.int (nI b) :: .int (nI a) :: rest)) := lv_icmp_ge C.1.1 C.1.2.1 hdg ht (fun h => kt ((ta_rge ha hb).mp h)) (fun h => kf (ta_oge (fun e => h ((ta_rge ha hb).mpr e))))
theorem ta_wgt (C : ta_At p l D k s m args c own cc nL A) {a b : Nat} {off : Int} {tgt : Nat} (ha : a < 4294967296) (hb : b < 2147483648) (hdg : decode cc pc = .ok (.if_icmp .gt off, 3)) (ht : (pc : Int) + off = (tgt : Int)) (kt : b < a ∧ a < 2147483648 → W p l e R s m args below meth c H locs cells slots Q (F0 m tgt ls rest)) (kf : a ≤ b ∨ 2147483648 ≤ a → W p l e R s m args below meth c H locs cells slots Q (F0 m (pc + 3) ls rest)) : W p l e R s m args below meth c H locs cells slots Q (F0 m pc ls (.int (nI b) :: .int (nI a) :: rest)) := lv_icmp_gt C.1.1 C.1.2.1 hdg ht (fun h => kt ((ta_rgt ha hb).mp h)) (fun h => kf (ta_ogt (fun e => h ((ta_rgt ha hb).mpr e))))
theorem ta_wle (C : ta_At p l D k s m args c own cc nL A) {a b : Nat} {off : Int} {tgt : Nat} (ha : a < 4294967296) (hb : b < 2147483648) (hdg : decode cc pc = .ok (.if_icmp .le off, 3)) (ht : (pc : Int) + off = (tgt : Int)) (kt : a ≤ b ∨ 2147483648 ≤ a → W p l e R s m args below meth c H locs cells slots Q (F0 m tgt ls rest)) (kf : b < a ∧ a < 2147483648 → W p l e R s m args below meth c H locs cells slots Q (F0 m (pc + 3) ls rest)) : W p l e R s m args below meth c H locs cells slots Q (F0 m pc ls (.int (nI b) :: .int (nI a) :: rest)) := lv_icmp_le C.1.1 C.1.2.1 hdg ht (fun h => kt ((ta_rle ha hb).mp h)) (fun h => kf (ta_ole (fun e => h ((ta_rle ha hb).mpr e))))
theorem ta_wilt (C : ta_At p l D k s m args c own cc nL A) {a : Nat} {off : Int} {tgt : Nat} (ha : a < 4294967296) (hdg : decode cc pc = .ok (.ifCond .lt off, 3)) (ht : (pc : Int) + off = (tgt : Int)) (kt : 2147483648 ≤ a → W p l e R s m args below meth c H locs cells slots Q (F0 m tgt ls rest)) (kf : a < 2147483648 → W p l e R s m args below meth c H locs cells slots Q (F0 m (pc + 3) ls rest)) : W p l e R s m args below meth c H locs cells slots Q (F0 m pc ls (.int (nI a) :: rest)) := lv_if_lt C.1.1 C.1.2.1 hdg ht (fun h => kt ((ta_r0 ha).mp h)) (fun h => kf (Nat.lt_of_not_le (fun e => h ((ta_r0 ha).mpr e))))
end TAW
set_option maxHeartbeats 4000000 in
set_option maxRecDepth 100000 in
theorem c_X8_in_w (l : Launch) (D : va_G) (k : ta_C) (v : Nat) (lo : Nat) (hi : Nat) (hb1 : v < 4294967296) (hb2 : lo < 2147483648) (hb3 : hi < 2147483648) : ta_Mi (S := Unit) l D k yX8_in cX8_in 3 .boolean 0 0 [.int (nI v), .int (nI lo), .int (nI hi)] [] (fun r _ => ((lo ≤ v ∧ v ≤ hi) ∧ r = nI 1) ∨ (¬ (lo ≤ v ∧ v ≤ hi) ∧ r = nI 0)) (fun u => []) := by
  refine ta_enter_i (by decide) (Nat.le_of_ble_eq_true rfl) ?_
  intro p e s m below meth c A ls Q C ret hP hD hS hl
  have C : ta_At p l D k s m ([.int (nI v), .int (nI lo), .int (nI hi)] : List Value).toArray c RX8 cX8_in 3 A := C
  have hx := C.1.1
  have hb := C.1.2.1
  have hl : lv_has ls 3 [(0, .int (nI v)), (1, .int (nI lo)), (2, .int (nI hi))] := hl
  obtain ⟨H, hH⟩ : ∃ H, H = s.heap := ⟨_, rfl⟩
  obtain ⟨locs, hlocs⟩ : ∃ q : List Loc, q = [] := ⟨_, rfl⟩
  have hP : va_P D vwCl [] H := by rw [hH]; exact hP
  have hS : va_S A s.heap H locs := by rw [hH, hlocs]; exact hS
  rw [← hlocs]
  suffices hgoal : W p l e ({ frames := 0, cells := 0, slots := 0, locals := 0 }) s m ([.int (nI v), .int (nI lo), .int (nI hi)] : List Value).toArray below meth c H locs 0 0 Q (F0 m 0 ls []) by rw [hH] at hgoal; exact hgoal
  clear hH hlocs
  refine lv_iload_n hx hb dX8_in_0 rfl (lv_at hl 0 rfl) ?_
  refine lv_iload_n hx hb dX8_in_1 rfl (lv_at hl 1 rfl) ?_
  refine ta_wlt C (a := v) (b := lo) (tgt := 14) (by omega) (by omega) dX8_in_2 (by decide) (fun c1 => ?_) (fun c1 => ?_)
  · refine ta_iconst C 0 dX8_in_14 (by decide) ?_
    exact ret _ () dX8_in_15 (by decide) (Or.inr ⟨by omega, rfl⟩) hP hD hS
  · refine lv_iload_n hx hb dX8_in_5 rfl (lv_at hl 0 rfl) ?_
    refine lv_iload_n hx hb dX8_in_6 rfl (lv_at hl 2 rfl) ?_
    refine ta_wgt C (a := v) (b := hi) (tgt := 14) (by omega) (by omega) dX8_in_7 (by decide) (fun c2 => ?_) (fun c2 => ?_)
    · refine ta_iconst C 0 dX8_in_14 (by decide) ?_
      exact ret _ () dX8_in_15 (by decide) (Or.inr ⟨by omega, rfl⟩) hP hD hS
    · refine ta_iconst C 1 dX8_in_10 (by decide) ?_
      refine lv_goto (tgt := 15) hx hb dX8_in_11 (by decide) ?_
      exact ret _ () dX8_in_15 (by decide) (Or.inl ⟨by omega, rfl⟩) hP hD hS

set_option maxHeartbeats 4000000 in
set_option maxRecDepth 100000 in
theorem c_X8_goes (l : Launch) (D : va_G) (k : ta_C) (z : Nat → Nat) (ty : Nat) (kn : Nat) (no : Nat) (at_ : Nat) (so : Nat) (sr : Nat) (va : Nat) (t : Nat → Nat) (g : Nat → Nat) (hok : tg_ok t g) (hh0 : g 0 < 1073741824) : ta_Mi (S := Unit) l D k yX8_goes cX8_goes 4 .int 2 70 [.ref (z 0)] [(z 0, .inr (8, [.ref (z 1), .int (nI ty), .ref (z 2), .ref (z 3), .ref (z 4), .ref (z 5), .int (nI kn), .ref (z 6), .ref (z 7), .ref (z 8), .int (nI no), .int (nI at_), .int (nI so), .int (nI sr), .int (nI va), .ref (z 9)])), (z 2, .inl (k.1 0, 23, .inl (ta_e t))), (z 4, .inl (k.1 0, 66, .inl (ta_e g)))] (fun r _ => r = nI (tg_kn g)) (fun u => [(z 0, .inr (8, [.ref (z 1), .int (nI ty), .ref (z 2), .ref (z 3), .ref (z 4), .ref (z 5), .int (nI kn), .ref (z 6), .ref (z 7), .ref (z 8), .int (nI no), .int (nI at_), .int (nI so), .int (nI sr), .int (nI va), .ref (z 9)])), (z 2, .inl (k.1 0, 23, .inl (ta_e t))), (z 4, .inl (k.1 0, 66, .inl (ta_e (tg_go t g))))]) := by
  refine ta_enter_i (by decide) (Nat.le_of_ble_eq_true rfl) ?_
  intro p e s m below meth c A ls Q C ret hP hD hS hl
  have C : ta_At p l D k s m ([.ref (z 0)] : List Value).toArray c RX8 cX8_goes 4 A := C
  have hx := C.1.1
  have hb := C.1.2.1
  have hl : lv_has ls 4 [(0, .ref (z 0))] := hl
  obtain ⟨H, hH⟩ : ∃ H, H = s.heap := ⟨_, rfl⟩
  obtain ⟨locs, hlocs⟩ : ∃ q : List Loc, q = [] := ⟨_, rfl⟩
  have hP : va_P D vwCl [(z 0, .inr (8, [.ref (z 1), .int (nI ty), .ref (z 2), .ref (z 3), .ref (z 4), .ref (z 5), .int (nI kn), .ref (z 6), .ref (z 7), .ref (z 8), .int (nI no), .int (nI at_), .int (nI so), .int (nI sr), .int (nI va), .ref (z 9)])), (z 2, .inl (k.1 0, 23, .inl (ta_e t))), (z 4, .inl (k.1 0, 66, .inl (ta_e g)))] H := by rw [hH]; exact hP
  have hS : va_S A s.heap H locs := by rw [hH, hlocs]; exact hS
  rw [← hlocs]
  suffices hgoal : W p l e ({ frames := 2, cells := 0, slots := 0, locals := 70 }) s m ([.ref (z 0)] : List Value).toArray below meth c H locs 0 0 Q (F0 m 0 ls []) by rw [hH] at hgoal; exact hgoal
  clear hH hlocs
  obtain ⟨⟨a1, a2, a3, a4, a5, a6⟩, b1, b2, b3, b4, b6, b7, b8, b9⟩ := id hok
  refine lv_aload_n hx hb dX8_goes_0 rfl (lv_at hl 0 rfl) ?_
  refine ta_get C hP 0 inlX8 rfl rfl 4 (by decide) tw_128 rfl dX8_goes_1 ?_
  refine ta_iconst C 0 dX8_goes_4 (by decide) ?_
  refine ta_iald C hP 2 rfl (i := 0) (by omega) dX8_goes_5 ?_
  refine ta_iconst C 2 dX8_goes_6 (by decide) ?_
  refine ta_irem C (a := g 0) (b := 2) (by omega) (by omega) (by omega) dX8_goes_7 ?_
  obtain ⟨a, ha⟩ : ∃ a, a = g 0 % 2 := ⟨_, rfl⟩
  refine ta_nv (y := a) ha.symm ?_
  rcases (show a = 0 ∨ a = 1 by omega) with rfl | rfl
  · refine lv_istore_n (lv' := [(1, .int (nI 0)), (0, .ref (z 0))]) hx hb dX8_goes_8 rfl hl (by decide) rfl (fun ls hl => ?_)
    refine ta_iconst C 4294967295 dX8_goes_9 (by decide) ?_
    refine lv_istore_n (lv' := [(2, .int (nI 4294967295)), (1, .int (nI 0)), (0, .ref (z 0))]) hx hb dX8_goes_10 rfl hl (by decide) rfl (fun ls hl => ?_)
    refine lv_aload_n hx hb dX8_goes_11 rfl (lv_at hl 2 rfl) ?_
    refine ta_get C hP 0 inlX8 rfl rfl 4 (by decide) tw_128 rfl dX8_goes_12 ?_
    refine ta_iconst C 4 dX8_goes_15 (by decide) ?_
    refine ta_iald C hP 2 rfl (i := 4) (by omega) dX8_goes_16 ?_
    refine ta_iconst C 4294967295 dX8_goes_17 (by decide) ?_
    refine ta_cne C (a := g 4) (b := 4294967295) (tgt := 38) (by omega) (by omega) dX8_goes_18 (by decide) (fun c1 => ?_) (fun c1 => ?_)
    · obtain ⟨g1, hg1⟩ : ∃ z, z = g := ⟨_, rfl⟩
      have epre : tg_pre g = g1 := by rw [hg1]; unfold tg_pre; rw [← ha]; exact if_neg (fun h => by have h7 : 0 < g 6 := h.2; omega)
      have hok1 : tg_ok t g1 := by rw [hg1]; exact hok
      have g10 : g1 0 = g 0 := by rw [hg1]
      rw [← hg1] at hP hD
      have hP : va_P D vwCl [(z 0, .inr (8, [.ref (z 1), .int (nI ty), .ref (z 2), .ref (z 3), .ref (z 4), .ref (z 5), .int (nI kn), .ref (z 6), .ref (z 7), .ref (z 8), .int (nI no), .int (nI at_), .int (nI so), .int (nI sr), .int (nI va), .ref (z 9)])), (z 2, .inl (k.1 0, 23, .inl (ta_e t))), (z 4, .inl (k.1 0, 66, .inl (ta_e g1)))] H := hP
      have hD : va_D A [(z 0, .inr (8, [.ref (z 1), .int (nI ty), .ref (z 2), .ref (z 3), .ref (z 4), .ref (z 5), .int (nI kn), .ref (z 6), .ref (z 7), .ref (z 8), .int (nI no), .int (nI at_), .int (nI so), .int (nI sr), .int (nI va), .ref (z 9)])), (z 2, .inl (k.1 0, 23, .inl (ta_e t))), (z 4, .inl (k.1 0, 66, .inl (ta_e g1)))] := hD
      obtain ⟨-, e1, e2, e3, e4, -⟩ := id hok1
      refine lv_aload_n hx hb dX8_goes_38 rfl (lv_at hl 2 rfl) ?_
      refine ta_get C hP 0 inlX8 rfl rfl 4 (by decide) tw_128 rfl dX8_goes_39 ?_
      refine ta_iconst C 4 dX8_goes_42 (by decide) ?_
      refine ta_iald C hP 2 rfl (i := 4) (by omega) dX8_goes_43 ?_
      rcases (show g1 4 = 4294967295 ∨ g1 4 = 0 ∨ g1 4 = 1 ∨ g1 4 = 2 ∨ g1 4 = 3 ∨ g1 4 = 4 by omega) with h4 | h4 | h4 | h4 | h4 | h4
      · refine ta_nv (y := 4294967295) h4 ?_
        refine lv_istore_n (lv' := [(3, .int (nI 4294967295)), (2, .int (nI 4294967295)), (1, .int (nI 0)), (0, .ref (z 0))]) hx hb dX8_goes_44 rfl hl (by decide) rfl (fun ls hl => ?_)
        refine lv_iload_n hx hb dX8_goes_45 rfl (lv_at hl 0 rfl) ?_
        refine ta_iconst C 4294967295 dX8_goes_46 (by decide) ?_
        refine lv_icmp_eq (tgt := 174) hx hb dX8_goes_47 (by decide) (fun c2 => ?_) (fun c2 => ?_)
        · obtain ⟨g3, hg3⟩ : ∃ z, z = g1 := ⟨_, rfl⟩
          rw [← hg3] at hP hD
          have ego : tg_go t g = tg_wind t g3 1 := by unfold tg_go; rw [epre, if_pos h4, hg3]
          have k1 : g3 1 = g1 1 := by rw [hg3]
          have hP : va_P D vwCl [(z 0, .inr (8, [.ref (z 1), .int (nI ty), .ref (z 2), .ref (z 3), .ref (z 4), .ref (z 5), .int (nI kn), .ref (z 6), .ref (z 7), .ref (z 8), .int (nI no), .int (nI at_), .int (nI so), .int (nI sr), .int (nI va), .ref (z 9)])), (z 2, .inl (k.1 0, 23, .inl (ta_e t))), (z 4, .inl (k.1 0, 66, .inl (ta_e g3)))] H := hP
          have hD : va_D A [(z 0, .inr (8, [.ref (z 1), .int (nI ty), .ref (z 2), .ref (z 3), .ref (z 4), .ref (z 5), .int (nI kn), .ref (z 6), .ref (z 7), .ref (z 8), .int (nI no), .int (nI at_), .int (nI so), .int (nI sr), .int (nI va), .ref (z 9)])), (z 2, .inl (k.1 0, 23, .inl (ta_e t))), (z 4, .inl (k.1 0, 66, .inl (ta_e g3)))] := hD
          refine lv_aload_n hx hb dX8_goes_174 rfl (lv_at hl 3 rfl) ?_
          refine ta_get C hP 0 inlX8 rfl rfl 4 (by decide) tw_128 rfl dX8_goes_175 ?_
          refine ta_iconst C 1 dX8_goes_178 (by decide) ?_
          refine lv_dup2_11 hx hb dX8_goes_179 rfl rfl ?_
          refine ta_iald C hP 2 rfl (i := 1) (by omega) dX8_goes_180 ?_
          refine ta_iconst C 1 dX8_goes_181 (by decide) ?_
          refine ta_iadd C (a := g3 1) (b := 1) dX8_goes_182 ?_
          refine ta_iast C hP hD hS 2 rfl (i := 1) (v := (g3 1) + 1) (by omega) dX8_goes_183 (fun H locs hP hD hS => ?_)
          have hP : va_P D vwCl [(z 0, .inr (8, [.ref (z 1), .int (nI ty), .ref (z 2), .ref (z 3), .ref (z 4), .ref (z 5), .int (nI kn), .ref (z 6), .ref (z 7), .ref (z 8), .int (nI no), .int (nI at_), .int (nI so), .int (nI sr), .int (nI va), .ref (z 9)])), (z 2, .inl (k.1 0, 23, .inl (ta_e t))), (z 4, .inl (k.1 0, 66, .inl (ta_e (ta_u g3 1 ((g3 1) + 1)))))] H := hP
          have hD : va_D A [(z 0, .inr (8, [.ref (z 1), .int (nI ty), .ref (z 2), .ref (z 3), .ref (z 4), .ref (z 5), .int (nI kn), .ref (z 6), .ref (z 7), .ref (z 8), .int (nI no), .int (nI at_), .int (nI so), .int (nI sr), .int (nI va), .ref (z 9)])), (z 2, .inl (k.1 0, 23, .inl (ta_e t))), (z 4, .inl (k.1 0, 66, .inl (ta_e (ta_u g3 1 ((g3 1) + 1)))))] := hD
          refine lv_aload_n hx hb dX8_goes_184 rfl (lv_at hl 3 rfl) ?_
          refine ta_get C hP 0 inlX8 rfl rfl 4 (by decide) tw_128 rfl dX8_goes_185 ?_
          refine ta_iconst C 1 dX8_goes_188 (by decide) ?_
          refine ta_iald C hP 2 rfl (i := 1) (by omega) dX8_goes_189 ?_
          refine ta_nv (y := (g3 1) + 1) ta_us ?_
          refine lv_aload_n hx hb dX8_goes_190 rfl (lv_at hl 3 rfl) ?_
          refine ta_get C hP 0 inlX8 rfl rfl 2 (by decide) tw_126 rfl dX8_goes_191 ?_
          refine ta_iconst C 2 dX8_goes_194 (by decide) ?_
          refine ta_iald C hP 1 rfl (i := 2) (by omega) dX8_goes_195 ?_
          refine ta_cne C (a := (g3 1) + 1) (b := t 2) (tgt := 216) (by omega) (by omega) dX8_goes_196 (by decide) (fun c3 => ?_) (fun c3 => ?_)
          · refine lv_iload_n hx hb dX8_goes_216 rfl (lv_at hl 1 rfl) ?_
            have e : ta_u g3 1 ((g3 1) + 1) = tg_go t g := by rw [ego]; unfold tg_wind; rw [if_neg (by omega)]
            have ekn : nI 4294967295 = nI (tg_kn g) := by unfold tg_kn; rw [epre, ← ha]; first | rw [if_pos (by omega)] | rw [if_neg (by omega)]
            rw [e] at hP hD
            exact ret _ () dX8_goes_217 rfl ekn hP hD hS
          · refine lv_aload_n hx hb dX8_goes_199 rfl (lv_at hl 3 rfl) ?_
            refine ta_get C hP 0 inlX8 rfl rfl 4 (by decide) tw_128 rfl dX8_goes_200 ?_
            refine ta_iconst C 1 dX8_goes_203 (by decide) ?_
            refine ta_iconst C 0 dX8_goes_204 (by decide) ?_
            refine ta_iast C hP hD hS 2 rfl (i := 1) (v := 0) (by omega) dX8_goes_205 (fun H locs hP hD hS => ?_)
            have hP : va_P D vwCl [(z 0, .inr (8, [.ref (z 1), .int (nI ty), .ref (z 2), .ref (z 3), .ref (z 4), .ref (z 5), .int (nI kn), .ref (z 6), .ref (z 7), .ref (z 8), .int (nI no), .int (nI at_), .int (nI so), .int (nI sr), .int (nI va), .ref (z 9)])), (z 2, .inl (k.1 0, 23, .inl (ta_e t))), (z 4, .inl (k.1 0, 66, .inl (ta_e (ta_u (ta_u g3 1 ((g3 1) + 1)) 1 0))))] H := hP
            have hD : va_D A [(z 0, .inr (8, [.ref (z 1), .int (nI ty), .ref (z 2), .ref (z 3), .ref (z 4), .ref (z 5), .int (nI kn), .ref (z 6), .ref (z 7), .ref (z 8), .int (nI no), .int (nI at_), .int (nI so), .int (nI sr), .int (nI va), .ref (z 9)])), (z 2, .inl (k.1 0, 23, .inl (ta_e t))), (z 4, .inl (k.1 0, 66, .inl (ta_e (ta_u (ta_u g3 1 ((g3 1) + 1)) 1 0))))] := hD
            refine lv_aload_n hx hb dX8_goes_206 rfl (lv_at hl 3 rfl) ?_
            refine ta_get C hP 0 inlX8 rfl rfl 4 (by decide) tw_128 rfl dX8_goes_207 ?_
            refine ta_iconst C 0 dX8_goes_210 (by decide) ?_
            refine lv_dup2_11 hx hb dX8_goes_211 rfl rfl ?_
            refine ta_iald C hP 2 rfl (i := 0) (by omega) dX8_goes_212 ?_
            refine ta_nv (y := (ta_u g3 1 ((g3 1) + 1)) 0) (ta_un (by decide)) ?_
            refine ta_nv (y := g3 0) (ta_un (by decide)) ?_
            refine ta_iconst C 1 dX8_goes_213 (by decide) ?_
            refine ta_iadd C (a := g3 0) (b := 1) dX8_goes_214 ?_
            refine ta_iast C hP hD hS 2 rfl (i := 0) (v := (g3 0) + 1) (by omega) dX8_goes_215 (fun H locs hP hD hS => ?_)
            have hP : va_P D vwCl [(z 0, .inr (8, [.ref (z 1), .int (nI ty), .ref (z 2), .ref (z 3), .ref (z 4), .ref (z 5), .int (nI kn), .ref (z 6), .ref (z 7), .ref (z 8), .int (nI no), .int (nI at_), .int (nI so), .int (nI sr), .int (nI va), .ref (z 9)])), (z 2, .inl (k.1 0, 23, .inl (ta_e t))), (z 4, .inl (k.1 0, 66, .inl (ta_e (ta_u (ta_u (ta_u g3 1 ((g3 1) + 1)) 1 0) 0 ((g3 0) + 1)))))] H := hP
            have hD : va_D A [(z 0, .inr (8, [.ref (z 1), .int (nI ty), .ref (z 2), .ref (z 3), .ref (z 4), .ref (z 5), .int (nI kn), .ref (z 6), .ref (z 7), .ref (z 8), .int (nI no), .int (nI at_), .int (nI so), .int (nI sr), .int (nI va), .ref (z 9)])), (z 2, .inl (k.1 0, 23, .inl (ta_e t))), (z 4, .inl (k.1 0, 66, .inl (ta_e (ta_u (ta_u (ta_u g3 1 ((g3 1) + 1)) 1 0) 0 ((g3 0) + 1)))))] := hD
            refine lv_iload_n hx hb dX8_goes_216 rfl (lv_at hl 1 rfl) ?_
            have e : ta_u (ta_u (ta_u g3 1 ((g3 1) + 1)) 1 0) 0 ((g3 0) + 1) = tg_go t g := by rw [ego]; unfold tg_wind; rw [if_pos (by omega), ta_uu]
            have ekn : nI 4294967295 = nI (tg_kn g) := by unfold tg_kn; rw [epre, ← ha]; first | rw [if_pos (by omega)] | rw [if_neg (by omega)]
            rw [e] at hP hD
            exact ret _ () dX8_goes_217 rfl ekn hP hD hS
        · exact absurd c2 (by decide)
      · refine ta_nv (y := 0) h4 ?_
        refine lv_istore_n (lv' := [(3, .int (nI 0)), (2, .int (nI 4294967295)), (1, .int (nI 0)), (0, .ref (z 0))]) hx hb dX8_goes_44 rfl hl (by decide) rfl (fun ls hl => ?_)
        refine lv_iload_n hx hb dX8_goes_45 rfl (lv_at hl 0 rfl) ?_
        refine ta_iconst C 4294967295 dX8_goes_46 (by decide) ?_
        refine lv_icmp_eq (tgt := 174) hx hb dX8_goes_47 (by decide) (fun c4 => ?_) (fun c4 => ?_)
        · exact absurd c4 (by decide)
        · refine lv_iload_n hx hb dX8_goes_50 rfl (lv_at hl 0 rfl) ?_
          refine lv_if_eq (tgt := 59) hx hb dX8_goes_51 (by decide) (fun c5 => ?_) (fun c5 => ?_)
          · refine lv_aload_n hx hb dX8_goes_59 rfl (lv_at hl 3 rfl) ?_
            refine lv_aload_n hx hb dX8_goes_60 rfl (lv_at hl 3 rfl) ?_
            refine ta_get C hP 0 inlX8 rfl rfl 4 (by decide) tw_128 rfl dX8_goes_61 ?_
            refine ta_iconst C 3 dX8_goes_64 (by decide) ?_
            refine ta_iald C hP 2 rfl (i := 3) (by omega) dX8_goes_65 ?_
            refine ta_callVv (As := [.int (nI (g1 3))]) (rest0 := []) (Wr := []) C hP hD hS (c_X8_steps l D k z ty kn no at_ so sr va t g1 (g1 3) hok1 e3) 0 rfl rfl rfl [0, 1, 2] [] rfl rfl (by decide) (by decide) (by decide) tw_489 tw_486 tw_5 tw_487 tw_488 ⟨by decide, by decide, rfl⟩ ⟨Nat.le_of_ble_eq_true rfl, Nat.le_of_ble_eq_true rfl⟩ ⟨Nat.zero_le _, Nat.zero_le _⟩ hl.1 rfl (Nat.le_of_ble_eq_true rfl) dX8_goes_66 (fun u7 H locs h8 hP hD hS => ?_)
            have hP : va_P D vwCl [(z 0, .inr (8, [.ref (z 1), .int (nI ty), .ref (z 2), .ref (z 3), .ref (z 4), .ref (z 5), .int (nI kn), .ref (z 6), .ref (z 7), .ref (z 8), .int (nI no), .int (nI at_), .int (nI so), .int (nI sr), .int (nI va), .ref (z 9)])), (z 2, .inl (k.1 0, 23, .inl (ta_e t))), (z 4, .inl (k.1 0, 66, .inl (ta_e (tg_step t g1 (g1 3)))))] H := hP
            have hD : va_D A [(z 0, .inr (8, [.ref (z 1), .int (nI ty), .ref (z 2), .ref (z 3), .ref (z 4), .ref (z 5), .int (nI kn), .ref (z 6), .ref (z 7), .ref (z 8), .int (nI no), .int (nI at_), .int (nI so), .int (nI sr), .int (nI va), .ref (z 9)])), (z 2, .inl (k.1 0, 23, .inl (ta_e t))), (z 4, .inl (k.1 0, 66, .inl (ta_e (tg_step t g1 (g1 3)))))] := hD
            refine lv_iload_n hx hb dX8_goes_69 rfl (lv_at hl 0 rfl) ?_
            refine ta_iconst C 2 dX8_goes_70 (by decide) ?_
            refine lv_icmp_ne (tgt := 84) hx hb dX8_goes_71 (by decide) (fun c9 => ?_) (fun c9 => ?_)
            · refine lv_iload_n hx hb dX8_goes_84 rfl (lv_at hl 0 rfl) ?_
              refine ta_iconst C 1 dX8_goes_85 (by decide) ?_
              refine lv_icmp_ne (tgt := 103) hx hb dX8_goes_86 (by decide) (fun c10 => ?_) (fun c10 => ?_)
              · refine lv_iload_n hx hb dX8_goes_103 rfl (lv_at hl 0 rfl) ?_
                refine ta_iconst C 3 dX8_goes_104 (by decide) ?_
                refine lv_icmp_ne (tgt := 124) hx hb dX8_goes_105 (by decide) (fun c11 => ?_) (fun c11 => ?_)
                · refine lv_iload_n hx hb dX8_goes_124 rfl (lv_at hl 0 rfl) ?_
                  refine ta_iconst C 4 dX8_goes_125 (by decide) ?_
                  refine lv_icmp_ne (tgt := 144) hx hb dX8_goes_126 (by decide) (fun c12 => ?_) (fun c12 => ?_)
                  · obtain ⟨g2, hg2⟩ : ∃ z, z = tg_step t g1 (g1 3) := ⟨_, rfl⟩
                    rw [← hg2] at hP hD
                    have eact : tg_act t g1 0 = g2 := by rw [hg2]; unfold tg_act; rw [if_pos h4]
                    have k5 : g2 5 = g1 5 := by rw [← eact]; exact tg_act_k (by omega) e2 (by omega) (by omega) (by omega)
                    have hP : va_P D vwCl [(z 0, .inr (8, [.ref (z 1), .int (nI ty), .ref (z 2), .ref (z 3), .ref (z 4), .ref (z 5), .int (nI kn), .ref (z 6), .ref (z 7), .ref (z 8), .int (nI no), .int (nI at_), .int (nI so), .int (nI sr), .int (nI va), .ref (z 9)])), (z 2, .inl (k.1 0, 23, .inl (ta_e t))), (z 4, .inl (k.1 0, 66, .inl (ta_e g2)))] H := hP
                    have hD : va_D A [(z 0, .inr (8, [.ref (z 1), .int (nI ty), .ref (z 2), .ref (z 3), .ref (z 4), .ref (z 5), .int (nI kn), .ref (z 6), .ref (z 7), .ref (z 8), .int (nI no), .int (nI at_), .int (nI so), .int (nI sr), .int (nI va), .ref (z 9)])), (z 2, .inl (k.1 0, 23, .inl (ta_e t))), (z 4, .inl (k.1 0, 66, .inl (ta_e g2)))] := hD
                    refine lv_aload_n hx hb dX8_goes_144 rfl (lv_at hl 3 rfl) ?_
                    refine ta_get C hP 0 inlX8 rfl rfl 4 (by decide) tw_128 rfl dX8_goes_145 ?_
                    refine ta_iconst C 5 dX8_goes_148 (by decide) ?_
                    refine lv_dup2_11 hx hb dX8_goes_149 rfl rfl ?_
                    refine ta_iald C hP 2 rfl (i := 5) (by omega) dX8_goes_150 ?_
                    refine ta_iconst C 1 dX8_goes_151 (by decide) ?_
                    refine ta_isub C (a := g2 5) (b := 1) (by omega) dX8_goes_152 ?_
                    refine ta_iast C hP hD hS 2 rfl (i := 5) (v := (g2 5) - 1) (by omega) dX8_goes_153 (fun H locs hP hD hS => ?_)
                    have hP : va_P D vwCl [(z 0, .inr (8, [.ref (z 1), .int (nI ty), .ref (z 2), .ref (z 3), .ref (z 4), .ref (z 5), .int (nI kn), .ref (z 6), .ref (z 7), .ref (z 8), .int (nI no), .int (nI at_), .int (nI so), .int (nI sr), .int (nI va), .ref (z 9)])), (z 2, .inl (k.1 0, 23, .inl (ta_e t))), (z 4, .inl (k.1 0, 66, .inl (ta_e (ta_u g2 5 ((g2 5) - 1)))))] H := hP
                    have hD : va_D A [(z 0, .inr (8, [.ref (z 1), .int (nI ty), .ref (z 2), .ref (z 3), .ref (z 4), .ref (z 5), .int (nI kn), .ref (z 6), .ref (z 7), .ref (z 8), .int (nI no), .int (nI at_), .int (nI so), .int (nI sr), .int (nI va), .ref (z 9)])), (z 2, .inl (k.1 0, 23, .inl (ta_e t))), (z 4, .inl (k.1 0, 66, .inl (ta_e (ta_u g2 5 ((g2 5) - 1)))))] := hD
                    refine lv_aload_n hx hb dX8_goes_154 rfl (lv_at hl 3 rfl) ?_
                    refine ta_get C hP 0 inlX8 rfl rfl 4 (by decide) tw_128 rfl dX8_goes_155 ?_
                    refine ta_iconst C 4 dX8_goes_158 (by decide) ?_
                    refine lv_aload_n hx hb dX8_goes_159 rfl (lv_at hl 3 rfl) ?_
                    refine ta_get C hP 0 inlX8 rfl rfl 4 (by decide) tw_128 rfl dX8_goes_160 ?_
                    refine ta_iconst C 5 dX8_goes_163 (by decide) ?_
                    refine ta_iald C hP 2 rfl (i := 5) (by omega) dX8_goes_164 ?_
                    refine ta_nv (y := (g2 5) - 1) ta_us ?_
                    refine ta_ine C (a := (g2 5) - 1) (tgt := 172) (by omega) dX8_goes_165 (by decide) (fun c13 => ?_) (fun c13 => ?_)
                    · refine lv_iload_n hx hb dX8_goes_172 rfl (lv_at hl 0 rfl) ?_
                      refine ta_iast C hP hD hS 2 rfl (i := 4) (v := 0) (by omega) dX8_goes_173 (fun H locs hP hD hS => ?_)
                      have hP : va_P D vwCl [(z 0, .inr (8, [.ref (z 1), .int (nI ty), .ref (z 2), .ref (z 3), .ref (z 4), .ref (z 5), .int (nI kn), .ref (z 6), .ref (z 7), .ref (z 8), .int (nI no), .int (nI at_), .int (nI so), .int (nI sr), .int (nI va), .ref (z 9)])), (z 2, .inl (k.1 0, 23, .inl (ta_e t))), (z 4, .inl (k.1 0, 66, .inl (ta_e (ta_u (ta_u g2 5 ((g2 5) - 1)) 4 0))))] H := hP
                      have hD : va_D A [(z 0, .inr (8, [.ref (z 1), .int (nI ty), .ref (z 2), .ref (z 3), .ref (z 4), .ref (z 5), .int (nI kn), .ref (z 6), .ref (z 7), .ref (z 8), .int (nI no), .int (nI at_), .int (nI so), .int (nI sr), .int (nI va), .ref (z 9)])), (z 2, .inl (k.1 0, 23, .inl (ta_e t))), (z 4, .inl (k.1 0, 66, .inl (ta_e (ta_u (ta_u g2 5 ((g2 5) - 1)) 4 0))))] := hD
                      obtain ⟨g3, hg3⟩ : ∃ z, z = ta_u (ta_u g2 5 ((g2 5) - 1)) 4 0 := ⟨_, rfl⟩
                      rw [← hg3] at hP hD
                      have edo : tg_do t g1 0 = g3 := by unfold tg_do; rw [hg3, eact, k5, if_neg (by omega), h4]
                      have ego : tg_go t g = tg_wind t g3 1 := by unfold tg_go; rw [epre, ← ha, if_neg (by omega), edo]
                      have k1 : g3 1 = g1 1 := by rw [← edo]; exact tg_do_k (by omega) e2 (by omega) (by omega) (by omega) (by omega) (by omega)
                      have hP : va_P D vwCl [(z 0, .inr (8, [.ref (z 1), .int (nI ty), .ref (z 2), .ref (z 3), .ref (z 4), .ref (z 5), .int (nI kn), .ref (z 6), .ref (z 7), .ref (z 8), .int (nI no), .int (nI at_), .int (nI so), .int (nI sr), .int (nI va), .ref (z 9)])), (z 2, .inl (k.1 0, 23, .inl (ta_e t))), (z 4, .inl (k.1 0, 66, .inl (ta_e g3)))] H := hP
                      have hD : va_D A [(z 0, .inr (8, [.ref (z 1), .int (nI ty), .ref (z 2), .ref (z 3), .ref (z 4), .ref (z 5), .int (nI kn), .ref (z 6), .ref (z 7), .ref (z 8), .int (nI no), .int (nI at_), .int (nI so), .int (nI sr), .int (nI va), .ref (z 9)])), (z 2, .inl (k.1 0, 23, .inl (ta_e t))), (z 4, .inl (k.1 0, 66, .inl (ta_e g3)))] := hD
                      refine lv_aload_n hx hb dX8_goes_174 rfl (lv_at hl 3 rfl) ?_
                      refine ta_get C hP 0 inlX8 rfl rfl 4 (by decide) tw_128 rfl dX8_goes_175 ?_
                      refine ta_iconst C 1 dX8_goes_178 (by decide) ?_
                      refine lv_dup2_11 hx hb dX8_goes_179 rfl rfl ?_
                      refine ta_iald C hP 2 rfl (i := 1) (by omega) dX8_goes_180 ?_
                      refine ta_iconst C 1 dX8_goes_181 (by decide) ?_
                      refine ta_iadd C (a := g3 1) (b := 1) dX8_goes_182 ?_
                      refine ta_iast C hP hD hS 2 rfl (i := 1) (v := (g3 1) + 1) (by omega) dX8_goes_183 (fun H locs hP hD hS => ?_)
                      have hP : va_P D vwCl [(z 0, .inr (8, [.ref (z 1), .int (nI ty), .ref (z 2), .ref (z 3), .ref (z 4), .ref (z 5), .int (nI kn), .ref (z 6), .ref (z 7), .ref (z 8), .int (nI no), .int (nI at_), .int (nI so), .int (nI sr), .int (nI va), .ref (z 9)])), (z 2, .inl (k.1 0, 23, .inl (ta_e t))), (z 4, .inl (k.1 0, 66, .inl (ta_e (ta_u g3 1 ((g3 1) + 1)))))] H := hP
                      have hD : va_D A [(z 0, .inr (8, [.ref (z 1), .int (nI ty), .ref (z 2), .ref (z 3), .ref (z 4), .ref (z 5), .int (nI kn), .ref (z 6), .ref (z 7), .ref (z 8), .int (nI no), .int (nI at_), .int (nI so), .int (nI sr), .int (nI va), .ref (z 9)])), (z 2, .inl (k.1 0, 23, .inl (ta_e t))), (z 4, .inl (k.1 0, 66, .inl (ta_e (ta_u g3 1 ((g3 1) + 1)))))] := hD
                      refine lv_aload_n hx hb dX8_goes_184 rfl (lv_at hl 3 rfl) ?_
                      refine ta_get C hP 0 inlX8 rfl rfl 4 (by decide) tw_128 rfl dX8_goes_185 ?_
                      refine ta_iconst C 1 dX8_goes_188 (by decide) ?_
                      refine ta_iald C hP 2 rfl (i := 1) (by omega) dX8_goes_189 ?_
                      refine ta_nv (y := (g3 1) + 1) ta_us ?_
                      refine lv_aload_n hx hb dX8_goes_190 rfl (lv_at hl 3 rfl) ?_
                      refine ta_get C hP 0 inlX8 rfl rfl 2 (by decide) tw_126 rfl dX8_goes_191 ?_
                      refine ta_iconst C 2 dX8_goes_194 (by decide) ?_
                      refine ta_iald C hP 1 rfl (i := 2) (by omega) dX8_goes_195 ?_
                      refine ta_cne C (a := (g3 1) + 1) (b := t 2) (tgt := 216) (by omega) (by omega) dX8_goes_196 (by decide) (fun c14 => ?_) (fun c14 => ?_)
                      · refine lv_iload_n hx hb dX8_goes_216 rfl (lv_at hl 1 rfl) ?_
                        have e : ta_u g3 1 ((g3 1) + 1) = tg_go t g := by rw [ego]; unfold tg_wind; rw [if_neg (by omega)]
                        have ekn : nI 4294967295 = nI (tg_kn g) := by unfold tg_kn; rw [epre, ← ha]; first | rw [if_pos (by omega)] | rw [if_neg (by omega)]
                        rw [e] at hP hD
                        exact ret _ () dX8_goes_217 rfl ekn hP hD hS
                      · refine lv_aload_n hx hb dX8_goes_199 rfl (lv_at hl 3 rfl) ?_
                        refine ta_get C hP 0 inlX8 rfl rfl 4 (by decide) tw_128 rfl dX8_goes_200 ?_
                        refine ta_iconst C 1 dX8_goes_203 (by decide) ?_
                        refine ta_iconst C 0 dX8_goes_204 (by decide) ?_
                        refine ta_iast C hP hD hS 2 rfl (i := 1) (v := 0) (by omega) dX8_goes_205 (fun H locs hP hD hS => ?_)
                        have hP : va_P D vwCl [(z 0, .inr (8, [.ref (z 1), .int (nI ty), .ref (z 2), .ref (z 3), .ref (z 4), .ref (z 5), .int (nI kn), .ref (z 6), .ref (z 7), .ref (z 8), .int (nI no), .int (nI at_), .int (nI so), .int (nI sr), .int (nI va), .ref (z 9)])), (z 2, .inl (k.1 0, 23, .inl (ta_e t))), (z 4, .inl (k.1 0, 66, .inl (ta_e (ta_u (ta_u g3 1 ((g3 1) + 1)) 1 0))))] H := hP
                        have hD : va_D A [(z 0, .inr (8, [.ref (z 1), .int (nI ty), .ref (z 2), .ref (z 3), .ref (z 4), .ref (z 5), .int (nI kn), .ref (z 6), .ref (z 7), .ref (z 8), .int (nI no), .int (nI at_), .int (nI so), .int (nI sr), .int (nI va), .ref (z 9)])), (z 2, .inl (k.1 0, 23, .inl (ta_e t))), (z 4, .inl (k.1 0, 66, .inl (ta_e (ta_u (ta_u g3 1 ((g3 1) + 1)) 1 0))))] := hD
                        refine lv_aload_n hx hb dX8_goes_206 rfl (lv_at hl 3 rfl) ?_
                        refine ta_get C hP 0 inlX8 rfl rfl 4 (by decide) tw_128 rfl dX8_goes_207 ?_
                        refine ta_iconst C 0 dX8_goes_210 (by decide) ?_
                        refine lv_dup2_11 hx hb dX8_goes_211 rfl rfl ?_
                        refine ta_iald C hP 2 rfl (i := 0) (by omega) dX8_goes_212 ?_
                        refine ta_nv (y := (ta_u g3 1 ((g3 1) + 1)) 0) (ta_un (by decide)) ?_
                        refine ta_nv (y := g3 0) (ta_un (by decide)) ?_
                        refine ta_iconst C 1 dX8_goes_213 (by decide) ?_
                        refine ta_iadd C (a := g3 0) (b := 1) dX8_goes_214 ?_
                        refine ta_iast C hP hD hS 2 rfl (i := 0) (v := (g3 0) + 1) (by omega) dX8_goes_215 (fun H locs hP hD hS => ?_)
                        have hP : va_P D vwCl [(z 0, .inr (8, [.ref (z 1), .int (nI ty), .ref (z 2), .ref (z 3), .ref (z 4), .ref (z 5), .int (nI kn), .ref (z 6), .ref (z 7), .ref (z 8), .int (nI no), .int (nI at_), .int (nI so), .int (nI sr), .int (nI va), .ref (z 9)])), (z 2, .inl (k.1 0, 23, .inl (ta_e t))), (z 4, .inl (k.1 0, 66, .inl (ta_e (ta_u (ta_u (ta_u g3 1 ((g3 1) + 1)) 1 0) 0 ((g3 0) + 1)))))] H := hP
                        have hD : va_D A [(z 0, .inr (8, [.ref (z 1), .int (nI ty), .ref (z 2), .ref (z 3), .ref (z 4), .ref (z 5), .int (nI kn), .ref (z 6), .ref (z 7), .ref (z 8), .int (nI no), .int (nI at_), .int (nI so), .int (nI sr), .int (nI va), .ref (z 9)])), (z 2, .inl (k.1 0, 23, .inl (ta_e t))), (z 4, .inl (k.1 0, 66, .inl (ta_e (ta_u (ta_u (ta_u g3 1 ((g3 1) + 1)) 1 0) 0 ((g3 0) + 1)))))] := hD
                        refine lv_iload_n hx hb dX8_goes_216 rfl (lv_at hl 1 rfl) ?_
                        have e : ta_u (ta_u (ta_u g3 1 ((g3 1) + 1)) 1 0) 0 ((g3 0) + 1) = tg_go t g := by rw [ego]; unfold tg_wind; rw [if_pos (by omega), ta_uu]
                        have ekn : nI 4294967295 = nI (tg_kn g) := by unfold tg_kn; rw [epre, ← ha]; first | rw [if_pos (by omega)] | rw [if_neg (by omega)]
                        rw [e] at hP hD
                        exact ret _ () dX8_goes_217 rfl ekn hP hD hS
                    · refine ta_iconst C 4294967295 dX8_goes_168 (by decide) ?_
                      refine lv_goto (tgt := 173) hx hb dX8_goes_169 (by decide) ?_
                      refine ta_iast C hP hD hS 2 rfl (i := 4) (v := 4294967295) (by omega) dX8_goes_173 (fun H locs hP hD hS => ?_)
                      have hP : va_P D vwCl [(z 0, .inr (8, [.ref (z 1), .int (nI ty), .ref (z 2), .ref (z 3), .ref (z 4), .ref (z 5), .int (nI kn), .ref (z 6), .ref (z 7), .ref (z 8), .int (nI no), .int (nI at_), .int (nI so), .int (nI sr), .int (nI va), .ref (z 9)])), (z 2, .inl (k.1 0, 23, .inl (ta_e t))), (z 4, .inl (k.1 0, 66, .inl (ta_e (ta_u (ta_u g2 5 ((g2 5) - 1)) 4 4294967295))))] H := hP
                      have hD : va_D A [(z 0, .inr (8, [.ref (z 1), .int (nI ty), .ref (z 2), .ref (z 3), .ref (z 4), .ref (z 5), .int (nI kn), .ref (z 6), .ref (z 7), .ref (z 8), .int (nI no), .int (nI at_), .int (nI so), .int (nI sr), .int (nI va), .ref (z 9)])), (z 2, .inl (k.1 0, 23, .inl (ta_e t))), (z 4, .inl (k.1 0, 66, .inl (ta_e (ta_u (ta_u g2 5 ((g2 5) - 1)) 4 4294967295))))] := hD
                      obtain ⟨g3, hg3⟩ : ∃ z, z = ta_u (ta_u g2 5 ((g2 5) - 1)) 4 4294967295 := ⟨_, rfl⟩
                      rw [← hg3] at hP hD
                      have edo : tg_do t g1 0 = g3 := by unfold tg_do; rw [hg3, eact, k5, if_pos (by omega)]
                      have ego : tg_go t g = tg_wind t g3 1 := by unfold tg_go; rw [epre, ← ha, if_neg (by omega), edo]
                      have k1 : g3 1 = g1 1 := by rw [← edo]; exact tg_do_k (by omega) e2 (by omega) (by omega) (by omega) (by omega) (by omega)
                      have hP : va_P D vwCl [(z 0, .inr (8, [.ref (z 1), .int (nI ty), .ref (z 2), .ref (z 3), .ref (z 4), .ref (z 5), .int (nI kn), .ref (z 6), .ref (z 7), .ref (z 8), .int (nI no), .int (nI at_), .int (nI so), .int (nI sr), .int (nI va), .ref (z 9)])), (z 2, .inl (k.1 0, 23, .inl (ta_e t))), (z 4, .inl (k.1 0, 66, .inl (ta_e g3)))] H := hP
                      have hD : va_D A [(z 0, .inr (8, [.ref (z 1), .int (nI ty), .ref (z 2), .ref (z 3), .ref (z 4), .ref (z 5), .int (nI kn), .ref (z 6), .ref (z 7), .ref (z 8), .int (nI no), .int (nI at_), .int (nI so), .int (nI sr), .int (nI va), .ref (z 9)])), (z 2, .inl (k.1 0, 23, .inl (ta_e t))), (z 4, .inl (k.1 0, 66, .inl (ta_e g3)))] := hD
                      refine lv_aload_n hx hb dX8_goes_174 rfl (lv_at hl 3 rfl) ?_
                      refine ta_get C hP 0 inlX8 rfl rfl 4 (by decide) tw_128 rfl dX8_goes_175 ?_
                      refine ta_iconst C 1 dX8_goes_178 (by decide) ?_
                      refine lv_dup2_11 hx hb dX8_goes_179 rfl rfl ?_
                      refine ta_iald C hP 2 rfl (i := 1) (by omega) dX8_goes_180 ?_
                      refine ta_iconst C 1 dX8_goes_181 (by decide) ?_
                      refine ta_iadd C (a := g3 1) (b := 1) dX8_goes_182 ?_
                      refine ta_iast C hP hD hS 2 rfl (i := 1) (v := (g3 1) + 1) (by omega) dX8_goes_183 (fun H locs hP hD hS => ?_)
                      have hP : va_P D vwCl [(z 0, .inr (8, [.ref (z 1), .int (nI ty), .ref (z 2), .ref (z 3), .ref (z 4), .ref (z 5), .int (nI kn), .ref (z 6), .ref (z 7), .ref (z 8), .int (nI no), .int (nI at_), .int (nI so), .int (nI sr), .int (nI va), .ref (z 9)])), (z 2, .inl (k.1 0, 23, .inl (ta_e t))), (z 4, .inl (k.1 0, 66, .inl (ta_e (ta_u g3 1 ((g3 1) + 1)))))] H := hP
                      have hD : va_D A [(z 0, .inr (8, [.ref (z 1), .int (nI ty), .ref (z 2), .ref (z 3), .ref (z 4), .ref (z 5), .int (nI kn), .ref (z 6), .ref (z 7), .ref (z 8), .int (nI no), .int (nI at_), .int (nI so), .int (nI sr), .int (nI va), .ref (z 9)])), (z 2, .inl (k.1 0, 23, .inl (ta_e t))), (z 4, .inl (k.1 0, 66, .inl (ta_e (ta_u g3 1 ((g3 1) + 1)))))] := hD
                      refine lv_aload_n hx hb dX8_goes_184 rfl (lv_at hl 3 rfl) ?_
                      refine ta_get C hP 0 inlX8 rfl rfl 4 (by decide) tw_128 rfl dX8_goes_185 ?_
                      refine ta_iconst C 1 dX8_goes_188 (by decide) ?_
                      refine ta_iald C hP 2 rfl (i := 1) (by omega) dX8_goes_189 ?_
                      refine ta_nv (y := (g3 1) + 1) ta_us ?_
                      refine lv_aload_n hx hb dX8_goes_190 rfl (lv_at hl 3 rfl) ?_
                      refine ta_get C hP 0 inlX8 rfl rfl 2 (by decide) tw_126 rfl dX8_goes_191 ?_
                      refine ta_iconst C 2 dX8_goes_194 (by decide) ?_
                      refine ta_iald C hP 1 rfl (i := 2) (by omega) dX8_goes_195 ?_
                      refine ta_cne C (a := (g3 1) + 1) (b := t 2) (tgt := 216) (by omega) (by omega) dX8_goes_196 (by decide) (fun c15 => ?_) (fun c15 => ?_)
                      · refine lv_iload_n hx hb dX8_goes_216 rfl (lv_at hl 1 rfl) ?_
                        have e : ta_u g3 1 ((g3 1) + 1) = tg_go t g := by rw [ego]; unfold tg_wind; rw [if_neg (by omega)]
                        have ekn : nI 4294967295 = nI (tg_kn g) := by unfold tg_kn; rw [epre, ← ha]; first | rw [if_pos (by omega)] | rw [if_neg (by omega)]
                        rw [e] at hP hD
                        exact ret _ () dX8_goes_217 rfl ekn hP hD hS
                      · refine lv_aload_n hx hb dX8_goes_199 rfl (lv_at hl 3 rfl) ?_
                        refine ta_get C hP 0 inlX8 rfl rfl 4 (by decide) tw_128 rfl dX8_goes_200 ?_
                        refine ta_iconst C 1 dX8_goes_203 (by decide) ?_
                        refine ta_iconst C 0 dX8_goes_204 (by decide) ?_
                        refine ta_iast C hP hD hS 2 rfl (i := 1) (v := 0) (by omega) dX8_goes_205 (fun H locs hP hD hS => ?_)
                        have hP : va_P D vwCl [(z 0, .inr (8, [.ref (z 1), .int (nI ty), .ref (z 2), .ref (z 3), .ref (z 4), .ref (z 5), .int (nI kn), .ref (z 6), .ref (z 7), .ref (z 8), .int (nI no), .int (nI at_), .int (nI so), .int (nI sr), .int (nI va), .ref (z 9)])), (z 2, .inl (k.1 0, 23, .inl (ta_e t))), (z 4, .inl (k.1 0, 66, .inl (ta_e (ta_u (ta_u g3 1 ((g3 1) + 1)) 1 0))))] H := hP
                        have hD : va_D A [(z 0, .inr (8, [.ref (z 1), .int (nI ty), .ref (z 2), .ref (z 3), .ref (z 4), .ref (z 5), .int (nI kn), .ref (z 6), .ref (z 7), .ref (z 8), .int (nI no), .int (nI at_), .int (nI so), .int (nI sr), .int (nI va), .ref (z 9)])), (z 2, .inl (k.1 0, 23, .inl (ta_e t))), (z 4, .inl (k.1 0, 66, .inl (ta_e (ta_u (ta_u g3 1 ((g3 1) + 1)) 1 0))))] := hD
                        refine lv_aload_n hx hb dX8_goes_206 rfl (lv_at hl 3 rfl) ?_
                        refine ta_get C hP 0 inlX8 rfl rfl 4 (by decide) tw_128 rfl dX8_goes_207 ?_
                        refine ta_iconst C 0 dX8_goes_210 (by decide) ?_
                        refine lv_dup2_11 hx hb dX8_goes_211 rfl rfl ?_
                        refine ta_iald C hP 2 rfl (i := 0) (by omega) dX8_goes_212 ?_
                        refine ta_nv (y := (ta_u g3 1 ((g3 1) + 1)) 0) (ta_un (by decide)) ?_
                        refine ta_nv (y := g3 0) (ta_un (by decide)) ?_
                        refine ta_iconst C 1 dX8_goes_213 (by decide) ?_
                        refine ta_iadd C (a := g3 0) (b := 1) dX8_goes_214 ?_
                        refine ta_iast C hP hD hS 2 rfl (i := 0) (v := (g3 0) + 1) (by omega) dX8_goes_215 (fun H locs hP hD hS => ?_)
                        have hP : va_P D vwCl [(z 0, .inr (8, [.ref (z 1), .int (nI ty), .ref (z 2), .ref (z 3), .ref (z 4), .ref (z 5), .int (nI kn), .ref (z 6), .ref (z 7), .ref (z 8), .int (nI no), .int (nI at_), .int (nI so), .int (nI sr), .int (nI va), .ref (z 9)])), (z 2, .inl (k.1 0, 23, .inl (ta_e t))), (z 4, .inl (k.1 0, 66, .inl (ta_e (ta_u (ta_u (ta_u g3 1 ((g3 1) + 1)) 1 0) 0 ((g3 0) + 1)))))] H := hP
                        have hD : va_D A [(z 0, .inr (8, [.ref (z 1), .int (nI ty), .ref (z 2), .ref (z 3), .ref (z 4), .ref (z 5), .int (nI kn), .ref (z 6), .ref (z 7), .ref (z 8), .int (nI no), .int (nI at_), .int (nI so), .int (nI sr), .int (nI va), .ref (z 9)])), (z 2, .inl (k.1 0, 23, .inl (ta_e t))), (z 4, .inl (k.1 0, 66, .inl (ta_e (ta_u (ta_u (ta_u g3 1 ((g3 1) + 1)) 1 0) 0 ((g3 0) + 1)))))] := hD
                        refine lv_iload_n hx hb dX8_goes_216 rfl (lv_at hl 1 rfl) ?_
                        have e : ta_u (ta_u (ta_u g3 1 ((g3 1) + 1)) 1 0) 0 ((g3 0) + 1) = tg_go t g := by rw [ego]; unfold tg_wind; rw [if_pos (by omega), ta_uu]
                        have ekn : nI 4294967295 = nI (tg_kn g) := by unfold tg_kn; rw [epre, ← ha]; first | rw [if_pos (by omega)] | rw [if_neg (by omega)]
                        rw [e] at hP hD
                        exact ret _ () dX8_goes_217 rfl ekn hP hD hS
                  · exact absurd c12 (by decide)
                · exact absurd c11 (by decide)
              · exact absurd c10 (by decide)
            · exact absurd c9 (by decide)
          · exact absurd c5 (by decide)
      · refine ta_nv (y := 1) h4 ?_
        refine lv_istore_n (lv' := [(3, .int (nI 1)), (2, .int (nI 4294967295)), (1, .int (nI 0)), (0, .ref (z 0))]) hx hb dX8_goes_44 rfl hl (by decide) rfl (fun ls hl => ?_)
        refine lv_iload_n hx hb dX8_goes_45 rfl (lv_at hl 0 rfl) ?_
        refine ta_iconst C 4294967295 dX8_goes_46 (by decide) ?_
        refine lv_icmp_eq (tgt := 174) hx hb dX8_goes_47 (by decide) (fun c16 => ?_) (fun c16 => ?_)
        · exact absurd c16 (by decide)
        · refine lv_iload_n hx hb dX8_goes_50 rfl (lv_at hl 0 rfl) ?_
          refine lv_if_eq (tgt := 59) hx hb dX8_goes_51 (by decide) (fun c17 => ?_) (fun c17 => ?_)
          · exact absurd c17 (by decide)
          · refine lv_iload_n hx hb dX8_goes_54 rfl (lv_at hl 0 rfl) ?_
            refine ta_iconst C 2 dX8_goes_55 (by decide) ?_
            refine lv_icmp_ne (tgt := 69) hx hb dX8_goes_56 (by decide) (fun c18 => ?_) (fun c18 => ?_)
            · refine lv_iload_n hx hb dX8_goes_69 rfl (lv_at hl 0 rfl) ?_
              refine ta_iconst C 2 dX8_goes_70 (by decide) ?_
              refine lv_icmp_ne (tgt := 84) hx hb dX8_goes_71 (by decide) (fun c19 => ?_) (fun c19 => ?_)
              · refine lv_iload_n hx hb dX8_goes_84 rfl (lv_at hl 0 rfl) ?_
                refine ta_iconst C 1 dX8_goes_85 (by decide) ?_
                refine lv_icmp_ne (tgt := 103) hx hb dX8_goes_86 (by decide) (fun c20 => ?_) (fun c20 => ?_)
                · exact absurd c20 (by decide)
                · refine lv_aload_n hx hb dX8_goes_89 rfl (lv_at hl 3 rfl) ?_
                  refine lv_aload_n hx hb dX8_goes_90 rfl (lv_at hl 3 rfl) ?_
                  refine ta_get C hP 0 inlX8 rfl rfl 4 (by decide) tw_128 rfl dX8_goes_91 ?_
                  refine ta_iconst C 3 dX8_goes_94 (by decide) ?_
                  refine ta_iald C hP 2 rfl (i := 3) (by omega) dX8_goes_95 ?_
                  refine ta_iconst C 2 dX8_goes_96 (by decide) ?_
                  refine ta_iadd C (a := g1 3) (b := 2) dX8_goes_97 ?_
                  refine ta_iconst C 4 dX8_goes_98 (by decide) ?_
                  refine ta_irem C (a := (g1 3) + 2) (b := 4) (by omega) (by omega) (by omega) dX8_goes_99 ?_
                  refine ta_callVv (As := [.int (nI (((g1 3) + 2) % 4))]) (rest0 := []) (Wr := []) C hP hD hS (c_X8_steps l D k z ty kn no at_ so sr va t g1 (((g1 3) + 2) % 4) hok1 (by omega)) 0 rfl rfl rfl [0, 1, 2] [] rfl rfl (by decide) (by decide) (by decide) tw_489 tw_486 tw_5 tw_487 tw_488 ⟨by decide, by decide, rfl⟩ ⟨Nat.le_of_ble_eq_true rfl, Nat.le_of_ble_eq_true rfl⟩ ⟨Nat.zero_le _, Nat.zero_le _⟩ hl.1 rfl (Nat.le_of_ble_eq_true rfl) dX8_goes_100 (fun u22 H locs h23 hP hD hS => ?_)
                  have hP : va_P D vwCl [(z 0, .inr (8, [.ref (z 1), .int (nI ty), .ref (z 2), .ref (z 3), .ref (z 4), .ref (z 5), .int (nI kn), .ref (z 6), .ref (z 7), .ref (z 8), .int (nI no), .int (nI at_), .int (nI so), .int (nI sr), .int (nI va), .ref (z 9)])), (z 2, .inl (k.1 0, 23, .inl (ta_e t))), (z 4, .inl (k.1 0, 66, .inl (ta_e (tg_step t g1 (((g1 3) + 2) % 4)))))] H := hP
                  have hD : va_D A [(z 0, .inr (8, [.ref (z 1), .int (nI ty), .ref (z 2), .ref (z 3), .ref (z 4), .ref (z 5), .int (nI kn), .ref (z 6), .ref (z 7), .ref (z 8), .int (nI no), .int (nI at_), .int (nI so), .int (nI sr), .int (nI va), .ref (z 9)])), (z 2, .inl (k.1 0, 23, .inl (ta_e t))), (z 4, .inl (k.1 0, 66, .inl (ta_e (tg_step t g1 (((g1 3) + 2) % 4)))))] := hD
                  refine lv_iload_n hx hb dX8_goes_103 rfl (lv_at hl 0 rfl) ?_
                  refine ta_iconst C 3 dX8_goes_104 (by decide) ?_
                  refine lv_icmp_ne (tgt := 124) hx hb dX8_goes_105 (by decide) (fun c24 => ?_) (fun c24 => ?_)
                  · refine lv_iload_n hx hb dX8_goes_124 rfl (lv_at hl 0 rfl) ?_
                    refine ta_iconst C 4 dX8_goes_125 (by decide) ?_
                    refine lv_icmp_ne (tgt := 144) hx hb dX8_goes_126 (by decide) (fun c25 => ?_) (fun c25 => ?_)
                    · obtain ⟨g2, hg2⟩ : ∃ z, z = tg_step t g1 (((g1 3) + 2) % 4) := ⟨_, rfl⟩
                      rw [← hg2] at hP hD
                      have eact : tg_act t g1 0 = g2 := by rw [hg2]; unfold tg_act; rw [if_neg (by omega), if_pos h4]
                      have k5 : g2 5 = g1 5 := by rw [← eact]; exact tg_act_k (by omega) e2 (by omega) (by omega) (by omega)
                      have hP : va_P D vwCl [(z 0, .inr (8, [.ref (z 1), .int (nI ty), .ref (z 2), .ref (z 3), .ref (z 4), .ref (z 5), .int (nI kn), .ref (z 6), .ref (z 7), .ref (z 8), .int (nI no), .int (nI at_), .int (nI so), .int (nI sr), .int (nI va), .ref (z 9)])), (z 2, .inl (k.1 0, 23, .inl (ta_e t))), (z 4, .inl (k.1 0, 66, .inl (ta_e g2)))] H := hP
                      have hD : va_D A [(z 0, .inr (8, [.ref (z 1), .int (nI ty), .ref (z 2), .ref (z 3), .ref (z 4), .ref (z 5), .int (nI kn), .ref (z 6), .ref (z 7), .ref (z 8), .int (nI no), .int (nI at_), .int (nI so), .int (nI sr), .int (nI va), .ref (z 9)])), (z 2, .inl (k.1 0, 23, .inl (ta_e t))), (z 4, .inl (k.1 0, 66, .inl (ta_e g2)))] := hD
                      refine lv_aload_n hx hb dX8_goes_144 rfl (lv_at hl 3 rfl) ?_
                      refine ta_get C hP 0 inlX8 rfl rfl 4 (by decide) tw_128 rfl dX8_goes_145 ?_
                      refine ta_iconst C 5 dX8_goes_148 (by decide) ?_
                      refine lv_dup2_11 hx hb dX8_goes_149 rfl rfl ?_
                      refine ta_iald C hP 2 rfl (i := 5) (by omega) dX8_goes_150 ?_
                      refine ta_iconst C 1 dX8_goes_151 (by decide) ?_
                      refine ta_isub C (a := g2 5) (b := 1) (by omega) dX8_goes_152 ?_
                      refine ta_iast C hP hD hS 2 rfl (i := 5) (v := (g2 5) - 1) (by omega) dX8_goes_153 (fun H locs hP hD hS => ?_)
                      have hP : va_P D vwCl [(z 0, .inr (8, [.ref (z 1), .int (nI ty), .ref (z 2), .ref (z 3), .ref (z 4), .ref (z 5), .int (nI kn), .ref (z 6), .ref (z 7), .ref (z 8), .int (nI no), .int (nI at_), .int (nI so), .int (nI sr), .int (nI va), .ref (z 9)])), (z 2, .inl (k.1 0, 23, .inl (ta_e t))), (z 4, .inl (k.1 0, 66, .inl (ta_e (ta_u g2 5 ((g2 5) - 1)))))] H := hP
                      have hD : va_D A [(z 0, .inr (8, [.ref (z 1), .int (nI ty), .ref (z 2), .ref (z 3), .ref (z 4), .ref (z 5), .int (nI kn), .ref (z 6), .ref (z 7), .ref (z 8), .int (nI no), .int (nI at_), .int (nI so), .int (nI sr), .int (nI va), .ref (z 9)])), (z 2, .inl (k.1 0, 23, .inl (ta_e t))), (z 4, .inl (k.1 0, 66, .inl (ta_e (ta_u g2 5 ((g2 5) - 1)))))] := hD
                      refine lv_aload_n hx hb dX8_goes_154 rfl (lv_at hl 3 rfl) ?_
                      refine ta_get C hP 0 inlX8 rfl rfl 4 (by decide) tw_128 rfl dX8_goes_155 ?_
                      refine ta_iconst C 4 dX8_goes_158 (by decide) ?_
                      refine lv_aload_n hx hb dX8_goes_159 rfl (lv_at hl 3 rfl) ?_
                      refine ta_get C hP 0 inlX8 rfl rfl 4 (by decide) tw_128 rfl dX8_goes_160 ?_
                      refine ta_iconst C 5 dX8_goes_163 (by decide) ?_
                      refine ta_iald C hP 2 rfl (i := 5) (by omega) dX8_goes_164 ?_
                      refine ta_nv (y := (g2 5) - 1) ta_us ?_
                      refine ta_ine C (a := (g2 5) - 1) (tgt := 172) (by omega) dX8_goes_165 (by decide) (fun c26 => ?_) (fun c26 => ?_)
                      · refine lv_iload_n hx hb dX8_goes_172 rfl (lv_at hl 0 rfl) ?_
                        refine ta_iast C hP hD hS 2 rfl (i := 4) (v := 1) (by omega) dX8_goes_173 (fun H locs hP hD hS => ?_)
                        have hP : va_P D vwCl [(z 0, .inr (8, [.ref (z 1), .int (nI ty), .ref (z 2), .ref (z 3), .ref (z 4), .ref (z 5), .int (nI kn), .ref (z 6), .ref (z 7), .ref (z 8), .int (nI no), .int (nI at_), .int (nI so), .int (nI sr), .int (nI va), .ref (z 9)])), (z 2, .inl (k.1 0, 23, .inl (ta_e t))), (z 4, .inl (k.1 0, 66, .inl (ta_e (ta_u (ta_u g2 5 ((g2 5) - 1)) 4 1))))] H := hP
                        have hD : va_D A [(z 0, .inr (8, [.ref (z 1), .int (nI ty), .ref (z 2), .ref (z 3), .ref (z 4), .ref (z 5), .int (nI kn), .ref (z 6), .ref (z 7), .ref (z 8), .int (nI no), .int (nI at_), .int (nI so), .int (nI sr), .int (nI va), .ref (z 9)])), (z 2, .inl (k.1 0, 23, .inl (ta_e t))), (z 4, .inl (k.1 0, 66, .inl (ta_e (ta_u (ta_u g2 5 ((g2 5) - 1)) 4 1))))] := hD
                        obtain ⟨g3, hg3⟩ : ∃ z, z = ta_u (ta_u g2 5 ((g2 5) - 1)) 4 1 := ⟨_, rfl⟩
                        rw [← hg3] at hP hD
                        have edo : tg_do t g1 0 = g3 := by unfold tg_do; rw [hg3, eact, k5, if_neg (by omega), h4]
                        have ego : tg_go t g = tg_wind t g3 1 := by unfold tg_go; rw [epre, ← ha, if_neg (by omega), edo]
                        have k1 : g3 1 = g1 1 := by rw [← edo]; exact tg_do_k (by omega) e2 (by omega) (by omega) (by omega) (by omega) (by omega)
                        have hP : va_P D vwCl [(z 0, .inr (8, [.ref (z 1), .int (nI ty), .ref (z 2), .ref (z 3), .ref (z 4), .ref (z 5), .int (nI kn), .ref (z 6), .ref (z 7), .ref (z 8), .int (nI no), .int (nI at_), .int (nI so), .int (nI sr), .int (nI va), .ref (z 9)])), (z 2, .inl (k.1 0, 23, .inl (ta_e t))), (z 4, .inl (k.1 0, 66, .inl (ta_e g3)))] H := hP
                        have hD : va_D A [(z 0, .inr (8, [.ref (z 1), .int (nI ty), .ref (z 2), .ref (z 3), .ref (z 4), .ref (z 5), .int (nI kn), .ref (z 6), .ref (z 7), .ref (z 8), .int (nI no), .int (nI at_), .int (nI so), .int (nI sr), .int (nI va), .ref (z 9)])), (z 2, .inl (k.1 0, 23, .inl (ta_e t))), (z 4, .inl (k.1 0, 66, .inl (ta_e g3)))] := hD
                        refine lv_aload_n hx hb dX8_goes_174 rfl (lv_at hl 3 rfl) ?_
                        refine ta_get C hP 0 inlX8 rfl rfl 4 (by decide) tw_128 rfl dX8_goes_175 ?_
                        refine ta_iconst C 1 dX8_goes_178 (by decide) ?_
                        refine lv_dup2_11 hx hb dX8_goes_179 rfl rfl ?_
                        refine ta_iald C hP 2 rfl (i := 1) (by omega) dX8_goes_180 ?_
                        refine ta_iconst C 1 dX8_goes_181 (by decide) ?_
                        refine ta_iadd C (a := g3 1) (b := 1) dX8_goes_182 ?_
                        refine ta_iast C hP hD hS 2 rfl (i := 1) (v := (g3 1) + 1) (by omega) dX8_goes_183 (fun H locs hP hD hS => ?_)
                        have hP : va_P D vwCl [(z 0, .inr (8, [.ref (z 1), .int (nI ty), .ref (z 2), .ref (z 3), .ref (z 4), .ref (z 5), .int (nI kn), .ref (z 6), .ref (z 7), .ref (z 8), .int (nI no), .int (nI at_), .int (nI so), .int (nI sr), .int (nI va), .ref (z 9)])), (z 2, .inl (k.1 0, 23, .inl (ta_e t))), (z 4, .inl (k.1 0, 66, .inl (ta_e (ta_u g3 1 ((g3 1) + 1)))))] H := hP
                        have hD : va_D A [(z 0, .inr (8, [.ref (z 1), .int (nI ty), .ref (z 2), .ref (z 3), .ref (z 4), .ref (z 5), .int (nI kn), .ref (z 6), .ref (z 7), .ref (z 8), .int (nI no), .int (nI at_), .int (nI so), .int (nI sr), .int (nI va), .ref (z 9)])), (z 2, .inl (k.1 0, 23, .inl (ta_e t))), (z 4, .inl (k.1 0, 66, .inl (ta_e (ta_u g3 1 ((g3 1) + 1)))))] := hD
                        refine lv_aload_n hx hb dX8_goes_184 rfl (lv_at hl 3 rfl) ?_
                        refine ta_get C hP 0 inlX8 rfl rfl 4 (by decide) tw_128 rfl dX8_goes_185 ?_
                        refine ta_iconst C 1 dX8_goes_188 (by decide) ?_
                        refine ta_iald C hP 2 rfl (i := 1) (by omega) dX8_goes_189 ?_
                        refine ta_nv (y := (g3 1) + 1) ta_us ?_
                        refine lv_aload_n hx hb dX8_goes_190 rfl (lv_at hl 3 rfl) ?_
                        refine ta_get C hP 0 inlX8 rfl rfl 2 (by decide) tw_126 rfl dX8_goes_191 ?_
                        refine ta_iconst C 2 dX8_goes_194 (by decide) ?_
                        refine ta_iald C hP 1 rfl (i := 2) (by omega) dX8_goes_195 ?_
                        refine ta_cne C (a := (g3 1) + 1) (b := t 2) (tgt := 216) (by omega) (by omega) dX8_goes_196 (by decide) (fun c27 => ?_) (fun c27 => ?_)
                        · refine lv_iload_n hx hb dX8_goes_216 rfl (lv_at hl 1 rfl) ?_
                          have e : ta_u g3 1 ((g3 1) + 1) = tg_go t g := by rw [ego]; unfold tg_wind; rw [if_neg (by omega)]
                          have ekn : nI 4294967295 = nI (tg_kn g) := by unfold tg_kn; rw [epre, ← ha]; first | rw [if_pos (by omega)] | rw [if_neg (by omega)]
                          rw [e] at hP hD
                          exact ret _ () dX8_goes_217 rfl ekn hP hD hS
                        · refine lv_aload_n hx hb dX8_goes_199 rfl (lv_at hl 3 rfl) ?_
                          refine ta_get C hP 0 inlX8 rfl rfl 4 (by decide) tw_128 rfl dX8_goes_200 ?_
                          refine ta_iconst C 1 dX8_goes_203 (by decide) ?_
                          refine ta_iconst C 0 dX8_goes_204 (by decide) ?_
                          refine ta_iast C hP hD hS 2 rfl (i := 1) (v := 0) (by omega) dX8_goes_205 (fun H locs hP hD hS => ?_)
                          have hP : va_P D vwCl [(z 0, .inr (8, [.ref (z 1), .int (nI ty), .ref (z 2), .ref (z 3), .ref (z 4), .ref (z 5), .int (nI kn), .ref (z 6), .ref (z 7), .ref (z 8), .int (nI no), .int (nI at_), .int (nI so), .int (nI sr), .int (nI va), .ref (z 9)])), (z 2, .inl (k.1 0, 23, .inl (ta_e t))), (z 4, .inl (k.1 0, 66, .inl (ta_e (ta_u (ta_u g3 1 ((g3 1) + 1)) 1 0))))] H := hP
                          have hD : va_D A [(z 0, .inr (8, [.ref (z 1), .int (nI ty), .ref (z 2), .ref (z 3), .ref (z 4), .ref (z 5), .int (nI kn), .ref (z 6), .ref (z 7), .ref (z 8), .int (nI no), .int (nI at_), .int (nI so), .int (nI sr), .int (nI va), .ref (z 9)])), (z 2, .inl (k.1 0, 23, .inl (ta_e t))), (z 4, .inl (k.1 0, 66, .inl (ta_e (ta_u (ta_u g3 1 ((g3 1) + 1)) 1 0))))] := hD
                          refine lv_aload_n hx hb dX8_goes_206 rfl (lv_at hl 3 rfl) ?_
                          refine ta_get C hP 0 inlX8 rfl rfl 4 (by decide) tw_128 rfl dX8_goes_207 ?_
                          refine ta_iconst C 0 dX8_goes_210 (by decide) ?_
                          refine lv_dup2_11 hx hb dX8_goes_211 rfl rfl ?_
                          refine ta_iald C hP 2 rfl (i := 0) (by omega) dX8_goes_212 ?_
                          refine ta_nv (y := (ta_u g3 1 ((g3 1) + 1)) 0) (ta_un (by decide)) ?_
                          refine ta_nv (y := g3 0) (ta_un (by decide)) ?_
                          refine ta_iconst C 1 dX8_goes_213 (by decide) ?_
                          refine ta_iadd C (a := g3 0) (b := 1) dX8_goes_214 ?_
                          refine ta_iast C hP hD hS 2 rfl (i := 0) (v := (g3 0) + 1) (by omega) dX8_goes_215 (fun H locs hP hD hS => ?_)
                          have hP : va_P D vwCl [(z 0, .inr (8, [.ref (z 1), .int (nI ty), .ref (z 2), .ref (z 3), .ref (z 4), .ref (z 5), .int (nI kn), .ref (z 6), .ref (z 7), .ref (z 8), .int (nI no), .int (nI at_), .int (nI so), .int (nI sr), .int (nI va), .ref (z 9)])), (z 2, .inl (k.1 0, 23, .inl (ta_e t))), (z 4, .inl (k.1 0, 66, .inl (ta_e (ta_u (ta_u (ta_u g3 1 ((g3 1) + 1)) 1 0) 0 ((g3 0) + 1)))))] H := hP
                          have hD : va_D A [(z 0, .inr (8, [.ref (z 1), .int (nI ty), .ref (z 2), .ref (z 3), .ref (z 4), .ref (z 5), .int (nI kn), .ref (z 6), .ref (z 7), .ref (z 8), .int (nI no), .int (nI at_), .int (nI so), .int (nI sr), .int (nI va), .ref (z 9)])), (z 2, .inl (k.1 0, 23, .inl (ta_e t))), (z 4, .inl (k.1 0, 66, .inl (ta_e (ta_u (ta_u (ta_u g3 1 ((g3 1) + 1)) 1 0) 0 ((g3 0) + 1)))))] := hD
                          refine lv_iload_n hx hb dX8_goes_216 rfl (lv_at hl 1 rfl) ?_
                          have e : ta_u (ta_u (ta_u g3 1 ((g3 1) + 1)) 1 0) 0 ((g3 0) + 1) = tg_go t g := by rw [ego]; unfold tg_wind; rw [if_pos (by omega), ta_uu]
                          have ekn : nI 4294967295 = nI (tg_kn g) := by unfold tg_kn; rw [epre, ← ha]; first | rw [if_pos (by omega)] | rw [if_neg (by omega)]
                          rw [e] at hP hD
                          exact ret _ () dX8_goes_217 rfl ekn hP hD hS
                      · refine ta_iconst C 4294967295 dX8_goes_168 (by decide) ?_
                        refine lv_goto (tgt := 173) hx hb dX8_goes_169 (by decide) ?_
                        refine ta_iast C hP hD hS 2 rfl (i := 4) (v := 4294967295) (by omega) dX8_goes_173 (fun H locs hP hD hS => ?_)
                        have hP : va_P D vwCl [(z 0, .inr (8, [.ref (z 1), .int (nI ty), .ref (z 2), .ref (z 3), .ref (z 4), .ref (z 5), .int (nI kn), .ref (z 6), .ref (z 7), .ref (z 8), .int (nI no), .int (nI at_), .int (nI so), .int (nI sr), .int (nI va), .ref (z 9)])), (z 2, .inl (k.1 0, 23, .inl (ta_e t))), (z 4, .inl (k.1 0, 66, .inl (ta_e (ta_u (ta_u g2 5 ((g2 5) - 1)) 4 4294967295))))] H := hP
                        have hD : va_D A [(z 0, .inr (8, [.ref (z 1), .int (nI ty), .ref (z 2), .ref (z 3), .ref (z 4), .ref (z 5), .int (nI kn), .ref (z 6), .ref (z 7), .ref (z 8), .int (nI no), .int (nI at_), .int (nI so), .int (nI sr), .int (nI va), .ref (z 9)])), (z 2, .inl (k.1 0, 23, .inl (ta_e t))), (z 4, .inl (k.1 0, 66, .inl (ta_e (ta_u (ta_u g2 5 ((g2 5) - 1)) 4 4294967295))))] := hD
                        obtain ⟨g3, hg3⟩ : ∃ z, z = ta_u (ta_u g2 5 ((g2 5) - 1)) 4 4294967295 := ⟨_, rfl⟩
                        rw [← hg3] at hP hD
                        have edo : tg_do t g1 0 = g3 := by unfold tg_do; rw [hg3, eact, k5, if_pos (by omega)]
                        have ego : tg_go t g = tg_wind t g3 1 := by unfold tg_go; rw [epre, ← ha, if_neg (by omega), edo]
                        have k1 : g3 1 = g1 1 := by rw [← edo]; exact tg_do_k (by omega) e2 (by omega) (by omega) (by omega) (by omega) (by omega)
                        have hP : va_P D vwCl [(z 0, .inr (8, [.ref (z 1), .int (nI ty), .ref (z 2), .ref (z 3), .ref (z 4), .ref (z 5), .int (nI kn), .ref (z 6), .ref (z 7), .ref (z 8), .int (nI no), .int (nI at_), .int (nI so), .int (nI sr), .int (nI va), .ref (z 9)])), (z 2, .inl (k.1 0, 23, .inl (ta_e t))), (z 4, .inl (k.1 0, 66, .inl (ta_e g3)))] H := hP
                        have hD : va_D A [(z 0, .inr (8, [.ref (z 1), .int (nI ty), .ref (z 2), .ref (z 3), .ref (z 4), .ref (z 5), .int (nI kn), .ref (z 6), .ref (z 7), .ref (z 8), .int (nI no), .int (nI at_), .int (nI so), .int (nI sr), .int (nI va), .ref (z 9)])), (z 2, .inl (k.1 0, 23, .inl (ta_e t))), (z 4, .inl (k.1 0, 66, .inl (ta_e g3)))] := hD
                        refine lv_aload_n hx hb dX8_goes_174 rfl (lv_at hl 3 rfl) ?_
                        refine ta_get C hP 0 inlX8 rfl rfl 4 (by decide) tw_128 rfl dX8_goes_175 ?_
                        refine ta_iconst C 1 dX8_goes_178 (by decide) ?_
                        refine lv_dup2_11 hx hb dX8_goes_179 rfl rfl ?_
                        refine ta_iald C hP 2 rfl (i := 1) (by omega) dX8_goes_180 ?_
                        refine ta_iconst C 1 dX8_goes_181 (by decide) ?_
                        refine ta_iadd C (a := g3 1) (b := 1) dX8_goes_182 ?_
                        refine ta_iast C hP hD hS 2 rfl (i := 1) (v := (g3 1) + 1) (by omega) dX8_goes_183 (fun H locs hP hD hS => ?_)
                        have hP : va_P D vwCl [(z 0, .inr (8, [.ref (z 1), .int (nI ty), .ref (z 2), .ref (z 3), .ref (z 4), .ref (z 5), .int (nI kn), .ref (z 6), .ref (z 7), .ref (z 8), .int (nI no), .int (nI at_), .int (nI so), .int (nI sr), .int (nI va), .ref (z 9)])), (z 2, .inl (k.1 0, 23, .inl (ta_e t))), (z 4, .inl (k.1 0, 66, .inl (ta_e (ta_u g3 1 ((g3 1) + 1)))))] H := hP
                        have hD : va_D A [(z 0, .inr (8, [.ref (z 1), .int (nI ty), .ref (z 2), .ref (z 3), .ref (z 4), .ref (z 5), .int (nI kn), .ref (z 6), .ref (z 7), .ref (z 8), .int (nI no), .int (nI at_), .int (nI so), .int (nI sr), .int (nI va), .ref (z 9)])), (z 2, .inl (k.1 0, 23, .inl (ta_e t))), (z 4, .inl (k.1 0, 66, .inl (ta_e (ta_u g3 1 ((g3 1) + 1)))))] := hD
                        refine lv_aload_n hx hb dX8_goes_184 rfl (lv_at hl 3 rfl) ?_
                        refine ta_get C hP 0 inlX8 rfl rfl 4 (by decide) tw_128 rfl dX8_goes_185 ?_
                        refine ta_iconst C 1 dX8_goes_188 (by decide) ?_
                        refine ta_iald C hP 2 rfl (i := 1) (by omega) dX8_goes_189 ?_
                        refine ta_nv (y := (g3 1) + 1) ta_us ?_
                        refine lv_aload_n hx hb dX8_goes_190 rfl (lv_at hl 3 rfl) ?_
                        refine ta_get C hP 0 inlX8 rfl rfl 2 (by decide) tw_126 rfl dX8_goes_191 ?_
                        refine ta_iconst C 2 dX8_goes_194 (by decide) ?_
                        refine ta_iald C hP 1 rfl (i := 2) (by omega) dX8_goes_195 ?_
                        refine ta_cne C (a := (g3 1) + 1) (b := t 2) (tgt := 216) (by omega) (by omega) dX8_goes_196 (by decide) (fun c28 => ?_) (fun c28 => ?_)
                        · refine lv_iload_n hx hb dX8_goes_216 rfl (lv_at hl 1 rfl) ?_
                          have e : ta_u g3 1 ((g3 1) + 1) = tg_go t g := by rw [ego]; unfold tg_wind; rw [if_neg (by omega)]
                          have ekn : nI 4294967295 = nI (tg_kn g) := by unfold tg_kn; rw [epre, ← ha]; first | rw [if_pos (by omega)] | rw [if_neg (by omega)]
                          rw [e] at hP hD
                          exact ret _ () dX8_goes_217 rfl ekn hP hD hS
                        · refine lv_aload_n hx hb dX8_goes_199 rfl (lv_at hl 3 rfl) ?_
                          refine ta_get C hP 0 inlX8 rfl rfl 4 (by decide) tw_128 rfl dX8_goes_200 ?_
                          refine ta_iconst C 1 dX8_goes_203 (by decide) ?_
                          refine ta_iconst C 0 dX8_goes_204 (by decide) ?_
                          refine ta_iast C hP hD hS 2 rfl (i := 1) (v := 0) (by omega) dX8_goes_205 (fun H locs hP hD hS => ?_)
                          have hP : va_P D vwCl [(z 0, .inr (8, [.ref (z 1), .int (nI ty), .ref (z 2), .ref (z 3), .ref (z 4), .ref (z 5), .int (nI kn), .ref (z 6), .ref (z 7), .ref (z 8), .int (nI no), .int (nI at_), .int (nI so), .int (nI sr), .int (nI va), .ref (z 9)])), (z 2, .inl (k.1 0, 23, .inl (ta_e t))), (z 4, .inl (k.1 0, 66, .inl (ta_e (ta_u (ta_u g3 1 ((g3 1) + 1)) 1 0))))] H := hP
                          have hD : va_D A [(z 0, .inr (8, [.ref (z 1), .int (nI ty), .ref (z 2), .ref (z 3), .ref (z 4), .ref (z 5), .int (nI kn), .ref (z 6), .ref (z 7), .ref (z 8), .int (nI no), .int (nI at_), .int (nI so), .int (nI sr), .int (nI va), .ref (z 9)])), (z 2, .inl (k.1 0, 23, .inl (ta_e t))), (z 4, .inl (k.1 0, 66, .inl (ta_e (ta_u (ta_u g3 1 ((g3 1) + 1)) 1 0))))] := hD
                          refine lv_aload_n hx hb dX8_goes_206 rfl (lv_at hl 3 rfl) ?_
                          refine ta_get C hP 0 inlX8 rfl rfl 4 (by decide) tw_128 rfl dX8_goes_207 ?_
                          refine ta_iconst C 0 dX8_goes_210 (by decide) ?_
                          refine lv_dup2_11 hx hb dX8_goes_211 rfl rfl ?_
                          refine ta_iald C hP 2 rfl (i := 0) (by omega) dX8_goes_212 ?_
                          refine ta_nv (y := (ta_u g3 1 ((g3 1) + 1)) 0) (ta_un (by decide)) ?_
                          refine ta_nv (y := g3 0) (ta_un (by decide)) ?_
                          refine ta_iconst C 1 dX8_goes_213 (by decide) ?_
                          refine ta_iadd C (a := g3 0) (b := 1) dX8_goes_214 ?_
                          refine ta_iast C hP hD hS 2 rfl (i := 0) (v := (g3 0) + 1) (by omega) dX8_goes_215 (fun H locs hP hD hS => ?_)
                          have hP : va_P D vwCl [(z 0, .inr (8, [.ref (z 1), .int (nI ty), .ref (z 2), .ref (z 3), .ref (z 4), .ref (z 5), .int (nI kn), .ref (z 6), .ref (z 7), .ref (z 8), .int (nI no), .int (nI at_), .int (nI so), .int (nI sr), .int (nI va), .ref (z 9)])), (z 2, .inl (k.1 0, 23, .inl (ta_e t))), (z 4, .inl (k.1 0, 66, .inl (ta_e (ta_u (ta_u (ta_u g3 1 ((g3 1) + 1)) 1 0) 0 ((g3 0) + 1)))))] H := hP
                          have hD : va_D A [(z 0, .inr (8, [.ref (z 1), .int (nI ty), .ref (z 2), .ref (z 3), .ref (z 4), .ref (z 5), .int (nI kn), .ref (z 6), .ref (z 7), .ref (z 8), .int (nI no), .int (nI at_), .int (nI so), .int (nI sr), .int (nI va), .ref (z 9)])), (z 2, .inl (k.1 0, 23, .inl (ta_e t))), (z 4, .inl (k.1 0, 66, .inl (ta_e (ta_u (ta_u (ta_u g3 1 ((g3 1) + 1)) 1 0) 0 ((g3 0) + 1)))))] := hD
                          refine lv_iload_n hx hb dX8_goes_216 rfl (lv_at hl 1 rfl) ?_
                          have e : ta_u (ta_u (ta_u g3 1 ((g3 1) + 1)) 1 0) 0 ((g3 0) + 1) = tg_go t g := by rw [ego]; unfold tg_wind; rw [if_pos (by omega), ta_uu]
                          have ekn : nI 4294967295 = nI (tg_kn g) := by unfold tg_kn; rw [epre, ← ha]; first | rw [if_pos (by omega)] | rw [if_neg (by omega)]
                          rw [e] at hP hD
                          exact ret _ () dX8_goes_217 rfl ekn hP hD hS
                    · exact absurd c25 (by decide)
                  · exact absurd c24 (by decide)
              · exact absurd c19 (by decide)
            · exact absurd c18 (by decide)
      · refine ta_nv (y := 2) h4 ?_
        refine lv_istore_n (lv' := [(3, .int (nI 2)), (2, .int (nI 4294967295)), (1, .int (nI 0)), (0, .ref (z 0))]) hx hb dX8_goes_44 rfl hl (by decide) rfl (fun ls hl => ?_)
        refine lv_iload_n hx hb dX8_goes_45 rfl (lv_at hl 0 rfl) ?_
        refine ta_iconst C 4294967295 dX8_goes_46 (by decide) ?_
        refine lv_icmp_eq (tgt := 174) hx hb dX8_goes_47 (by decide) (fun c29 => ?_) (fun c29 => ?_)
        · exact absurd c29 (by decide)
        · refine lv_iload_n hx hb dX8_goes_50 rfl (lv_at hl 0 rfl) ?_
          refine lv_if_eq (tgt := 59) hx hb dX8_goes_51 (by decide) (fun c30 => ?_) (fun c30 => ?_)
          · exact absurd c30 (by decide)
          · refine lv_iload_n hx hb dX8_goes_54 rfl (lv_at hl 0 rfl) ?_
            refine ta_iconst C 2 dX8_goes_55 (by decide) ?_
            refine lv_icmp_ne (tgt := 69) hx hb dX8_goes_56 (by decide) (fun c31 => ?_) (fun c31 => ?_)
            · exact absurd c31 (by decide)
            · refine lv_aload_n hx hb dX8_goes_59 rfl (lv_at hl 3 rfl) ?_
              refine lv_aload_n hx hb dX8_goes_60 rfl (lv_at hl 3 rfl) ?_
              refine ta_get C hP 0 inlX8 rfl rfl 4 (by decide) tw_128 rfl dX8_goes_61 ?_
              refine ta_iconst C 3 dX8_goes_64 (by decide) ?_
              refine ta_iald C hP 2 rfl (i := 3) (by omega) dX8_goes_65 ?_
              refine ta_callVv (As := [.int (nI (g1 3))]) (rest0 := []) (Wr := []) C hP hD hS (c_X8_steps l D k z ty kn no at_ so sr va t g1 (g1 3) hok1 e3) 0 rfl rfl rfl [0, 1, 2] [] rfl rfl (by decide) (by decide) (by decide) tw_489 tw_486 tw_5 tw_487 tw_488 ⟨by decide, by decide, rfl⟩ ⟨Nat.le_of_ble_eq_true rfl, Nat.le_of_ble_eq_true rfl⟩ ⟨Nat.zero_le _, Nat.zero_le _⟩ hl.1 rfl (Nat.le_of_ble_eq_true rfl) dX8_goes_66 (fun u33 H locs h34 hP hD hS => ?_)
              have hP : va_P D vwCl [(z 0, .inr (8, [.ref (z 1), .int (nI ty), .ref (z 2), .ref (z 3), .ref (z 4), .ref (z 5), .int (nI kn), .ref (z 6), .ref (z 7), .ref (z 8), .int (nI no), .int (nI at_), .int (nI so), .int (nI sr), .int (nI va), .ref (z 9)])), (z 2, .inl (k.1 0, 23, .inl (ta_e t))), (z 4, .inl (k.1 0, 66, .inl (ta_e (tg_step t g1 (g1 3)))))] H := hP
              have hD : va_D A [(z 0, .inr (8, [.ref (z 1), .int (nI ty), .ref (z 2), .ref (z 3), .ref (z 4), .ref (z 5), .int (nI kn), .ref (z 6), .ref (z 7), .ref (z 8), .int (nI no), .int (nI at_), .int (nI so), .int (nI sr), .int (nI va), .ref (z 9)])), (z 2, .inl (k.1 0, 23, .inl (ta_e t))), (z 4, .inl (k.1 0, 66, .inl (ta_e (tg_step t g1 (g1 3)))))] := hD
              refine lv_iload_n hx hb dX8_goes_69 rfl (lv_at hl 0 rfl) ?_
              refine ta_iconst C 2 dX8_goes_70 (by decide) ?_
              refine lv_icmp_ne (tgt := 84) hx hb dX8_goes_71 (by decide) (fun c35 => ?_) (fun c35 => ?_)
              · exact absurd c35 (by decide)
              · refine lv_aload_n hx hb dX8_goes_74 rfl (lv_at hl 3 rfl) ?_
                refine lv_aload_n hx hb dX8_goes_75 rfl (lv_at hl 3 rfl) ?_
                refine ta_get C hP 0 inlX8 rfl rfl 4 (by decide) tw_128 rfl dX8_goes_76 ?_
                refine ta_iconst C 3 dX8_goes_79 (by decide) ?_
                refine ta_iald C hP 2 rfl (i := 3) (by omega) dX8_goes_80 ?_
                refine ta_callVv (As := [.int (nI ((tg_step t g1 (g1 3)) 3))]) (rest0 := []) (Wr := []) C hP hD hS (c_X8_steps l D k z ty kn no at_ so sr va t (tg_step t g1 (g1 3)) ((tg_step t g1 (g1 3)) 3) (tg_ok_step _ hok1) (by rw [tg_step_k (by omega) e2 (by omega) (by omega)]; exact e3)) 0 rfl rfl rfl [0, 1, 2] [] rfl rfl (by decide) (by decide) (by decide) tw_489 tw_486 tw_5 tw_487 tw_488 ⟨by decide, by decide, rfl⟩ ⟨Nat.le_of_ble_eq_true rfl, Nat.le_of_ble_eq_true rfl⟩ ⟨Nat.zero_le _, Nat.zero_le _⟩ hl.1 rfl (Nat.le_of_ble_eq_true rfl) dX8_goes_81 (fun u37 H locs h38 hP hD hS => ?_)
                have hP : va_P D vwCl [(z 0, .inr (8, [.ref (z 1), .int (nI ty), .ref (z 2), .ref (z 3), .ref (z 4), .ref (z 5), .int (nI kn), .ref (z 6), .ref (z 7), .ref (z 8), .int (nI no), .int (nI at_), .int (nI so), .int (nI sr), .int (nI va), .ref (z 9)])), (z 2, .inl (k.1 0, 23, .inl (ta_e t))), (z 4, .inl (k.1 0, 66, .inl (ta_e (tg_step t (tg_step t g1 (g1 3)) ((tg_step t g1 (g1 3)) 3)))))] H := hP
                have hD : va_D A [(z 0, .inr (8, [.ref (z 1), .int (nI ty), .ref (z 2), .ref (z 3), .ref (z 4), .ref (z 5), .int (nI kn), .ref (z 6), .ref (z 7), .ref (z 8), .int (nI no), .int (nI at_), .int (nI so), .int (nI sr), .int (nI va), .ref (z 9)])), (z 2, .inl (k.1 0, 23, .inl (ta_e t))), (z 4, .inl (k.1 0, 66, .inl (ta_e (tg_step t (tg_step t g1 (g1 3)) ((tg_step t g1 (g1 3)) 3)))))] := hD
                refine lv_iload_n hx hb dX8_goes_84 rfl (lv_at hl 0 rfl) ?_
                refine ta_iconst C 1 dX8_goes_85 (by decide) ?_
                refine lv_icmp_ne (tgt := 103) hx hb dX8_goes_86 (by decide) (fun c39 => ?_) (fun c39 => ?_)
                · refine lv_iload_n hx hb dX8_goes_103 rfl (lv_at hl 0 rfl) ?_
                  refine ta_iconst C 3 dX8_goes_104 (by decide) ?_
                  refine lv_icmp_ne (tgt := 124) hx hb dX8_goes_105 (by decide) (fun c40 => ?_) (fun c40 => ?_)
                  · refine lv_iload_n hx hb dX8_goes_124 rfl (lv_at hl 0 rfl) ?_
                    refine ta_iconst C 4 dX8_goes_125 (by decide) ?_
                    refine lv_icmp_ne (tgt := 144) hx hb dX8_goes_126 (by decide) (fun c41 => ?_) (fun c41 => ?_)
                    · obtain ⟨g2, hg2⟩ : ∃ z, z = tg_step t (tg_step t g1 (g1 3)) ((tg_step t g1 (g1 3)) 3) := ⟨_, rfl⟩
                      rw [← hg2] at hP hD
                      have eact : tg_act t g1 0 = g2 := by rw [hg2, show (tg_step t g1 (g1 3)) 3 = g1 3 from tg_step_k (by omega) e2 (by omega) (by omega)]; unfold tg_act; rw [if_neg (by omega), if_neg (by omega), if_pos h4]
                      have k5 : g2 5 = g1 5 := by rw [← eact]; exact tg_act_k (by omega) e2 (by omega) (by omega) (by omega)
                      have hP : va_P D vwCl [(z 0, .inr (8, [.ref (z 1), .int (nI ty), .ref (z 2), .ref (z 3), .ref (z 4), .ref (z 5), .int (nI kn), .ref (z 6), .ref (z 7), .ref (z 8), .int (nI no), .int (nI at_), .int (nI so), .int (nI sr), .int (nI va), .ref (z 9)])), (z 2, .inl (k.1 0, 23, .inl (ta_e t))), (z 4, .inl (k.1 0, 66, .inl (ta_e g2)))] H := hP
                      have hD : va_D A [(z 0, .inr (8, [.ref (z 1), .int (nI ty), .ref (z 2), .ref (z 3), .ref (z 4), .ref (z 5), .int (nI kn), .ref (z 6), .ref (z 7), .ref (z 8), .int (nI no), .int (nI at_), .int (nI so), .int (nI sr), .int (nI va), .ref (z 9)])), (z 2, .inl (k.1 0, 23, .inl (ta_e t))), (z 4, .inl (k.1 0, 66, .inl (ta_e g2)))] := hD
                      refine lv_aload_n hx hb dX8_goes_144 rfl (lv_at hl 3 rfl) ?_
                      refine ta_get C hP 0 inlX8 rfl rfl 4 (by decide) tw_128 rfl dX8_goes_145 ?_
                      refine ta_iconst C 5 dX8_goes_148 (by decide) ?_
                      refine lv_dup2_11 hx hb dX8_goes_149 rfl rfl ?_
                      refine ta_iald C hP 2 rfl (i := 5) (by omega) dX8_goes_150 ?_
                      refine ta_iconst C 1 dX8_goes_151 (by decide) ?_
                      refine ta_isub C (a := g2 5) (b := 1) (by omega) dX8_goes_152 ?_
                      refine ta_iast C hP hD hS 2 rfl (i := 5) (v := (g2 5) - 1) (by omega) dX8_goes_153 (fun H locs hP hD hS => ?_)
                      have hP : va_P D vwCl [(z 0, .inr (8, [.ref (z 1), .int (nI ty), .ref (z 2), .ref (z 3), .ref (z 4), .ref (z 5), .int (nI kn), .ref (z 6), .ref (z 7), .ref (z 8), .int (nI no), .int (nI at_), .int (nI so), .int (nI sr), .int (nI va), .ref (z 9)])), (z 2, .inl (k.1 0, 23, .inl (ta_e t))), (z 4, .inl (k.1 0, 66, .inl (ta_e (ta_u g2 5 ((g2 5) - 1)))))] H := hP
                      have hD : va_D A [(z 0, .inr (8, [.ref (z 1), .int (nI ty), .ref (z 2), .ref (z 3), .ref (z 4), .ref (z 5), .int (nI kn), .ref (z 6), .ref (z 7), .ref (z 8), .int (nI no), .int (nI at_), .int (nI so), .int (nI sr), .int (nI va), .ref (z 9)])), (z 2, .inl (k.1 0, 23, .inl (ta_e t))), (z 4, .inl (k.1 0, 66, .inl (ta_e (ta_u g2 5 ((g2 5) - 1)))))] := hD
                      refine lv_aload_n hx hb dX8_goes_154 rfl (lv_at hl 3 rfl) ?_
                      refine ta_get C hP 0 inlX8 rfl rfl 4 (by decide) tw_128 rfl dX8_goes_155 ?_
                      refine ta_iconst C 4 dX8_goes_158 (by decide) ?_
                      refine lv_aload_n hx hb dX8_goes_159 rfl (lv_at hl 3 rfl) ?_
                      refine ta_get C hP 0 inlX8 rfl rfl 4 (by decide) tw_128 rfl dX8_goes_160 ?_
                      refine ta_iconst C 5 dX8_goes_163 (by decide) ?_
                      refine ta_iald C hP 2 rfl (i := 5) (by omega) dX8_goes_164 ?_
                      refine ta_nv (y := (g2 5) - 1) ta_us ?_
                      refine ta_ine C (a := (g2 5) - 1) (tgt := 172) (by omega) dX8_goes_165 (by decide) (fun c42 => ?_) (fun c42 => ?_)
                      · refine lv_iload_n hx hb dX8_goes_172 rfl (lv_at hl 0 rfl) ?_
                        refine ta_iast C hP hD hS 2 rfl (i := 4) (v := 2) (by omega) dX8_goes_173 (fun H locs hP hD hS => ?_)
                        have hP : va_P D vwCl [(z 0, .inr (8, [.ref (z 1), .int (nI ty), .ref (z 2), .ref (z 3), .ref (z 4), .ref (z 5), .int (nI kn), .ref (z 6), .ref (z 7), .ref (z 8), .int (nI no), .int (nI at_), .int (nI so), .int (nI sr), .int (nI va), .ref (z 9)])), (z 2, .inl (k.1 0, 23, .inl (ta_e t))), (z 4, .inl (k.1 0, 66, .inl (ta_e (ta_u (ta_u g2 5 ((g2 5) - 1)) 4 2))))] H := hP
                        have hD : va_D A [(z 0, .inr (8, [.ref (z 1), .int (nI ty), .ref (z 2), .ref (z 3), .ref (z 4), .ref (z 5), .int (nI kn), .ref (z 6), .ref (z 7), .ref (z 8), .int (nI no), .int (nI at_), .int (nI so), .int (nI sr), .int (nI va), .ref (z 9)])), (z 2, .inl (k.1 0, 23, .inl (ta_e t))), (z 4, .inl (k.1 0, 66, .inl (ta_e (ta_u (ta_u g2 5 ((g2 5) - 1)) 4 2))))] := hD
                        obtain ⟨g3, hg3⟩ : ∃ z, z = ta_u (ta_u g2 5 ((g2 5) - 1)) 4 2 := ⟨_, rfl⟩
                        rw [← hg3] at hP hD
                        have edo : tg_do t g1 0 = g3 := by unfold tg_do; rw [hg3, eact, k5, if_neg (by omega), h4]
                        have ego : tg_go t g = tg_wind t g3 1 := by unfold tg_go; rw [epre, ← ha, if_neg (by omega), edo]
                        have k1 : g3 1 = g1 1 := by rw [← edo]; exact tg_do_k (by omega) e2 (by omega) (by omega) (by omega) (by omega) (by omega)
                        have hP : va_P D vwCl [(z 0, .inr (8, [.ref (z 1), .int (nI ty), .ref (z 2), .ref (z 3), .ref (z 4), .ref (z 5), .int (nI kn), .ref (z 6), .ref (z 7), .ref (z 8), .int (nI no), .int (nI at_), .int (nI so), .int (nI sr), .int (nI va), .ref (z 9)])), (z 2, .inl (k.1 0, 23, .inl (ta_e t))), (z 4, .inl (k.1 0, 66, .inl (ta_e g3)))] H := hP
                        have hD : va_D A [(z 0, .inr (8, [.ref (z 1), .int (nI ty), .ref (z 2), .ref (z 3), .ref (z 4), .ref (z 5), .int (nI kn), .ref (z 6), .ref (z 7), .ref (z 8), .int (nI no), .int (nI at_), .int (nI so), .int (nI sr), .int (nI va), .ref (z 9)])), (z 2, .inl (k.1 0, 23, .inl (ta_e t))), (z 4, .inl (k.1 0, 66, .inl (ta_e g3)))] := hD
                        refine lv_aload_n hx hb dX8_goes_174 rfl (lv_at hl 3 rfl) ?_
                        refine ta_get C hP 0 inlX8 rfl rfl 4 (by decide) tw_128 rfl dX8_goes_175 ?_
                        refine ta_iconst C 1 dX8_goes_178 (by decide) ?_
                        refine lv_dup2_11 hx hb dX8_goes_179 rfl rfl ?_
                        refine ta_iald C hP 2 rfl (i := 1) (by omega) dX8_goes_180 ?_
                        refine ta_iconst C 1 dX8_goes_181 (by decide) ?_
                        refine ta_iadd C (a := g3 1) (b := 1) dX8_goes_182 ?_
                        refine ta_iast C hP hD hS 2 rfl (i := 1) (v := (g3 1) + 1) (by omega) dX8_goes_183 (fun H locs hP hD hS => ?_)
                        have hP : va_P D vwCl [(z 0, .inr (8, [.ref (z 1), .int (nI ty), .ref (z 2), .ref (z 3), .ref (z 4), .ref (z 5), .int (nI kn), .ref (z 6), .ref (z 7), .ref (z 8), .int (nI no), .int (nI at_), .int (nI so), .int (nI sr), .int (nI va), .ref (z 9)])), (z 2, .inl (k.1 0, 23, .inl (ta_e t))), (z 4, .inl (k.1 0, 66, .inl (ta_e (ta_u g3 1 ((g3 1) + 1)))))] H := hP
                        have hD : va_D A [(z 0, .inr (8, [.ref (z 1), .int (nI ty), .ref (z 2), .ref (z 3), .ref (z 4), .ref (z 5), .int (nI kn), .ref (z 6), .ref (z 7), .ref (z 8), .int (nI no), .int (nI at_), .int (nI so), .int (nI sr), .int (nI va), .ref (z 9)])), (z 2, .inl (k.1 0, 23, .inl (ta_e t))), (z 4, .inl (k.1 0, 66, .inl (ta_e (ta_u g3 1 ((g3 1) + 1)))))] := hD
                        refine lv_aload_n hx hb dX8_goes_184 rfl (lv_at hl 3 rfl) ?_
                        refine ta_get C hP 0 inlX8 rfl rfl 4 (by decide) tw_128 rfl dX8_goes_185 ?_
                        refine ta_iconst C 1 dX8_goes_188 (by decide) ?_
                        refine ta_iald C hP 2 rfl (i := 1) (by omega) dX8_goes_189 ?_
                        refine ta_nv (y := (g3 1) + 1) ta_us ?_
                        refine lv_aload_n hx hb dX8_goes_190 rfl (lv_at hl 3 rfl) ?_
                        refine ta_get C hP 0 inlX8 rfl rfl 2 (by decide) tw_126 rfl dX8_goes_191 ?_
                        refine ta_iconst C 2 dX8_goes_194 (by decide) ?_
                        refine ta_iald C hP 1 rfl (i := 2) (by omega) dX8_goes_195 ?_
                        refine ta_cne C (a := (g3 1) + 1) (b := t 2) (tgt := 216) (by omega) (by omega) dX8_goes_196 (by decide) (fun c43 => ?_) (fun c43 => ?_)
                        · refine lv_iload_n hx hb dX8_goes_216 rfl (lv_at hl 1 rfl) ?_
                          have e : ta_u g3 1 ((g3 1) + 1) = tg_go t g := by rw [ego]; unfold tg_wind; rw [if_neg (by omega)]
                          have ekn : nI 4294967295 = nI (tg_kn g) := by unfold tg_kn; rw [epre, ← ha]; first | rw [if_pos (by omega)] | rw [if_neg (by omega)]
                          rw [e] at hP hD
                          exact ret _ () dX8_goes_217 rfl ekn hP hD hS
                        · refine lv_aload_n hx hb dX8_goes_199 rfl (lv_at hl 3 rfl) ?_
                          refine ta_get C hP 0 inlX8 rfl rfl 4 (by decide) tw_128 rfl dX8_goes_200 ?_
                          refine ta_iconst C 1 dX8_goes_203 (by decide) ?_
                          refine ta_iconst C 0 dX8_goes_204 (by decide) ?_
                          refine ta_iast C hP hD hS 2 rfl (i := 1) (v := 0) (by omega) dX8_goes_205 (fun H locs hP hD hS => ?_)
                          have hP : va_P D vwCl [(z 0, .inr (8, [.ref (z 1), .int (nI ty), .ref (z 2), .ref (z 3), .ref (z 4), .ref (z 5), .int (nI kn), .ref (z 6), .ref (z 7), .ref (z 8), .int (nI no), .int (nI at_), .int (nI so), .int (nI sr), .int (nI va), .ref (z 9)])), (z 2, .inl (k.1 0, 23, .inl (ta_e t))), (z 4, .inl (k.1 0, 66, .inl (ta_e (ta_u (ta_u g3 1 ((g3 1) + 1)) 1 0))))] H := hP
                          have hD : va_D A [(z 0, .inr (8, [.ref (z 1), .int (nI ty), .ref (z 2), .ref (z 3), .ref (z 4), .ref (z 5), .int (nI kn), .ref (z 6), .ref (z 7), .ref (z 8), .int (nI no), .int (nI at_), .int (nI so), .int (nI sr), .int (nI va), .ref (z 9)])), (z 2, .inl (k.1 0, 23, .inl (ta_e t))), (z 4, .inl (k.1 0, 66, .inl (ta_e (ta_u (ta_u g3 1 ((g3 1) + 1)) 1 0))))] := hD
                          refine lv_aload_n hx hb dX8_goes_206 rfl (lv_at hl 3 rfl) ?_
                          refine ta_get C hP 0 inlX8 rfl rfl 4 (by decide) tw_128 rfl dX8_goes_207 ?_
                          refine ta_iconst C 0 dX8_goes_210 (by decide) ?_
                          refine lv_dup2_11 hx hb dX8_goes_211 rfl rfl ?_
                          refine ta_iald C hP 2 rfl (i := 0) (by omega) dX8_goes_212 ?_
                          refine ta_nv (y := (ta_u g3 1 ((g3 1) + 1)) 0) (ta_un (by decide)) ?_
                          refine ta_nv (y := g3 0) (ta_un (by decide)) ?_
                          refine ta_iconst C 1 dX8_goes_213 (by decide) ?_
                          refine ta_iadd C (a := g3 0) (b := 1) dX8_goes_214 ?_
                          refine ta_iast C hP hD hS 2 rfl (i := 0) (v := (g3 0) + 1) (by omega) dX8_goes_215 (fun H locs hP hD hS => ?_)
                          have hP : va_P D vwCl [(z 0, .inr (8, [.ref (z 1), .int (nI ty), .ref (z 2), .ref (z 3), .ref (z 4), .ref (z 5), .int (nI kn), .ref (z 6), .ref (z 7), .ref (z 8), .int (nI no), .int (nI at_), .int (nI so), .int (nI sr), .int (nI va), .ref (z 9)])), (z 2, .inl (k.1 0, 23, .inl (ta_e t))), (z 4, .inl (k.1 0, 66, .inl (ta_e (ta_u (ta_u (ta_u g3 1 ((g3 1) + 1)) 1 0) 0 ((g3 0) + 1)))))] H := hP
                          have hD : va_D A [(z 0, .inr (8, [.ref (z 1), .int (nI ty), .ref (z 2), .ref (z 3), .ref (z 4), .ref (z 5), .int (nI kn), .ref (z 6), .ref (z 7), .ref (z 8), .int (nI no), .int (nI at_), .int (nI so), .int (nI sr), .int (nI va), .ref (z 9)])), (z 2, .inl (k.1 0, 23, .inl (ta_e t))), (z 4, .inl (k.1 0, 66, .inl (ta_e (ta_u (ta_u (ta_u g3 1 ((g3 1) + 1)) 1 0) 0 ((g3 0) + 1)))))] := hD
                          refine lv_iload_n hx hb dX8_goes_216 rfl (lv_at hl 1 rfl) ?_
                          have e : ta_u (ta_u (ta_u g3 1 ((g3 1) + 1)) 1 0) 0 ((g3 0) + 1) = tg_go t g := by rw [ego]; unfold tg_wind; rw [if_pos (by omega), ta_uu]
                          have ekn : nI 4294967295 = nI (tg_kn g) := by unfold tg_kn; rw [epre, ← ha]; first | rw [if_pos (by omega)] | rw [if_neg (by omega)]
                          rw [e] at hP hD
                          exact ret _ () dX8_goes_217 rfl ekn hP hD hS
                      · refine ta_iconst C 4294967295 dX8_goes_168 (by decide) ?_
                        refine lv_goto (tgt := 173) hx hb dX8_goes_169 (by decide) ?_
                        refine ta_iast C hP hD hS 2 rfl (i := 4) (v := 4294967295) (by omega) dX8_goes_173 (fun H locs hP hD hS => ?_)
                        have hP : va_P D vwCl [(z 0, .inr (8, [.ref (z 1), .int (nI ty), .ref (z 2), .ref (z 3), .ref (z 4), .ref (z 5), .int (nI kn), .ref (z 6), .ref (z 7), .ref (z 8), .int (nI no), .int (nI at_), .int (nI so), .int (nI sr), .int (nI va), .ref (z 9)])), (z 2, .inl (k.1 0, 23, .inl (ta_e t))), (z 4, .inl (k.1 0, 66, .inl (ta_e (ta_u (ta_u g2 5 ((g2 5) - 1)) 4 4294967295))))] H := hP
                        have hD : va_D A [(z 0, .inr (8, [.ref (z 1), .int (nI ty), .ref (z 2), .ref (z 3), .ref (z 4), .ref (z 5), .int (nI kn), .ref (z 6), .ref (z 7), .ref (z 8), .int (nI no), .int (nI at_), .int (nI so), .int (nI sr), .int (nI va), .ref (z 9)])), (z 2, .inl (k.1 0, 23, .inl (ta_e t))), (z 4, .inl (k.1 0, 66, .inl (ta_e (ta_u (ta_u g2 5 ((g2 5) - 1)) 4 4294967295))))] := hD
                        obtain ⟨g3, hg3⟩ : ∃ z, z = ta_u (ta_u g2 5 ((g2 5) - 1)) 4 4294967295 := ⟨_, rfl⟩
                        rw [← hg3] at hP hD
                        have edo : tg_do t g1 0 = g3 := by unfold tg_do; rw [hg3, eact, k5, if_pos (by omega)]
                        have ego : tg_go t g = tg_wind t g3 1 := by unfold tg_go; rw [epre, ← ha, if_neg (by omega), edo]
                        have k1 : g3 1 = g1 1 := by rw [← edo]; exact tg_do_k (by omega) e2 (by omega) (by omega) (by omega) (by omega) (by omega)
                        have hP : va_P D vwCl [(z 0, .inr (8, [.ref (z 1), .int (nI ty), .ref (z 2), .ref (z 3), .ref (z 4), .ref (z 5), .int (nI kn), .ref (z 6), .ref (z 7), .ref (z 8), .int (nI no), .int (nI at_), .int (nI so), .int (nI sr), .int (nI va), .ref (z 9)])), (z 2, .inl (k.1 0, 23, .inl (ta_e t))), (z 4, .inl (k.1 0, 66, .inl (ta_e g3)))] H := hP
                        have hD : va_D A [(z 0, .inr (8, [.ref (z 1), .int (nI ty), .ref (z 2), .ref (z 3), .ref (z 4), .ref (z 5), .int (nI kn), .ref (z 6), .ref (z 7), .ref (z 8), .int (nI no), .int (nI at_), .int (nI so), .int (nI sr), .int (nI va), .ref (z 9)])), (z 2, .inl (k.1 0, 23, .inl (ta_e t))), (z 4, .inl (k.1 0, 66, .inl (ta_e g3)))] := hD
                        refine lv_aload_n hx hb dX8_goes_174 rfl (lv_at hl 3 rfl) ?_
                        refine ta_get C hP 0 inlX8 rfl rfl 4 (by decide) tw_128 rfl dX8_goes_175 ?_
                        refine ta_iconst C 1 dX8_goes_178 (by decide) ?_
                        refine lv_dup2_11 hx hb dX8_goes_179 rfl rfl ?_
                        refine ta_iald C hP 2 rfl (i := 1) (by omega) dX8_goes_180 ?_
                        refine ta_iconst C 1 dX8_goes_181 (by decide) ?_
                        refine ta_iadd C (a := g3 1) (b := 1) dX8_goes_182 ?_
                        refine ta_iast C hP hD hS 2 rfl (i := 1) (v := (g3 1) + 1) (by omega) dX8_goes_183 (fun H locs hP hD hS => ?_)
                        have hP : va_P D vwCl [(z 0, .inr (8, [.ref (z 1), .int (nI ty), .ref (z 2), .ref (z 3), .ref (z 4), .ref (z 5), .int (nI kn), .ref (z 6), .ref (z 7), .ref (z 8), .int (nI no), .int (nI at_), .int (nI so), .int (nI sr), .int (nI va), .ref (z 9)])), (z 2, .inl (k.1 0, 23, .inl (ta_e t))), (z 4, .inl (k.1 0, 66, .inl (ta_e (ta_u g3 1 ((g3 1) + 1)))))] H := hP
                        have hD : va_D A [(z 0, .inr (8, [.ref (z 1), .int (nI ty), .ref (z 2), .ref (z 3), .ref (z 4), .ref (z 5), .int (nI kn), .ref (z 6), .ref (z 7), .ref (z 8), .int (nI no), .int (nI at_), .int (nI so), .int (nI sr), .int (nI va), .ref (z 9)])), (z 2, .inl (k.1 0, 23, .inl (ta_e t))), (z 4, .inl (k.1 0, 66, .inl (ta_e (ta_u g3 1 ((g3 1) + 1)))))] := hD
                        refine lv_aload_n hx hb dX8_goes_184 rfl (lv_at hl 3 rfl) ?_
                        refine ta_get C hP 0 inlX8 rfl rfl 4 (by decide) tw_128 rfl dX8_goes_185 ?_
                        refine ta_iconst C 1 dX8_goes_188 (by decide) ?_
                        refine ta_iald C hP 2 rfl (i := 1) (by omega) dX8_goes_189 ?_
                        refine ta_nv (y := (g3 1) + 1) ta_us ?_
                        refine lv_aload_n hx hb dX8_goes_190 rfl (lv_at hl 3 rfl) ?_
                        refine ta_get C hP 0 inlX8 rfl rfl 2 (by decide) tw_126 rfl dX8_goes_191 ?_
                        refine ta_iconst C 2 dX8_goes_194 (by decide) ?_
                        refine ta_iald C hP 1 rfl (i := 2) (by omega) dX8_goes_195 ?_
                        refine ta_cne C (a := (g3 1) + 1) (b := t 2) (tgt := 216) (by omega) (by omega) dX8_goes_196 (by decide) (fun c44 => ?_) (fun c44 => ?_)
                        · refine lv_iload_n hx hb dX8_goes_216 rfl (lv_at hl 1 rfl) ?_
                          have e : ta_u g3 1 ((g3 1) + 1) = tg_go t g := by rw [ego]; unfold tg_wind; rw [if_neg (by omega)]
                          have ekn : nI 4294967295 = nI (tg_kn g) := by unfold tg_kn; rw [epre, ← ha]; first | rw [if_pos (by omega)] | rw [if_neg (by omega)]
                          rw [e] at hP hD
                          exact ret _ () dX8_goes_217 rfl ekn hP hD hS
                        · refine lv_aload_n hx hb dX8_goes_199 rfl (lv_at hl 3 rfl) ?_
                          refine ta_get C hP 0 inlX8 rfl rfl 4 (by decide) tw_128 rfl dX8_goes_200 ?_
                          refine ta_iconst C 1 dX8_goes_203 (by decide) ?_
                          refine ta_iconst C 0 dX8_goes_204 (by decide) ?_
                          refine ta_iast C hP hD hS 2 rfl (i := 1) (v := 0) (by omega) dX8_goes_205 (fun H locs hP hD hS => ?_)
                          have hP : va_P D vwCl [(z 0, .inr (8, [.ref (z 1), .int (nI ty), .ref (z 2), .ref (z 3), .ref (z 4), .ref (z 5), .int (nI kn), .ref (z 6), .ref (z 7), .ref (z 8), .int (nI no), .int (nI at_), .int (nI so), .int (nI sr), .int (nI va), .ref (z 9)])), (z 2, .inl (k.1 0, 23, .inl (ta_e t))), (z 4, .inl (k.1 0, 66, .inl (ta_e (ta_u (ta_u g3 1 ((g3 1) + 1)) 1 0))))] H := hP
                          have hD : va_D A [(z 0, .inr (8, [.ref (z 1), .int (nI ty), .ref (z 2), .ref (z 3), .ref (z 4), .ref (z 5), .int (nI kn), .ref (z 6), .ref (z 7), .ref (z 8), .int (nI no), .int (nI at_), .int (nI so), .int (nI sr), .int (nI va), .ref (z 9)])), (z 2, .inl (k.1 0, 23, .inl (ta_e t))), (z 4, .inl (k.1 0, 66, .inl (ta_e (ta_u (ta_u g3 1 ((g3 1) + 1)) 1 0))))] := hD
                          refine lv_aload_n hx hb dX8_goes_206 rfl (lv_at hl 3 rfl) ?_
                          refine ta_get C hP 0 inlX8 rfl rfl 4 (by decide) tw_128 rfl dX8_goes_207 ?_
                          refine ta_iconst C 0 dX8_goes_210 (by decide) ?_
                          refine lv_dup2_11 hx hb dX8_goes_211 rfl rfl ?_
                          refine ta_iald C hP 2 rfl (i := 0) (by omega) dX8_goes_212 ?_
                          refine ta_nv (y := (ta_u g3 1 ((g3 1) + 1)) 0) (ta_un (by decide)) ?_
                          refine ta_nv (y := g3 0) (ta_un (by decide)) ?_
                          refine ta_iconst C 1 dX8_goes_213 (by decide) ?_
                          refine ta_iadd C (a := g3 0) (b := 1) dX8_goes_214 ?_
                          refine ta_iast C hP hD hS 2 rfl (i := 0) (v := (g3 0) + 1) (by omega) dX8_goes_215 (fun H locs hP hD hS => ?_)
                          have hP : va_P D vwCl [(z 0, .inr (8, [.ref (z 1), .int (nI ty), .ref (z 2), .ref (z 3), .ref (z 4), .ref (z 5), .int (nI kn), .ref (z 6), .ref (z 7), .ref (z 8), .int (nI no), .int (nI at_), .int (nI so), .int (nI sr), .int (nI va), .ref (z 9)])), (z 2, .inl (k.1 0, 23, .inl (ta_e t))), (z 4, .inl (k.1 0, 66, .inl (ta_e (ta_u (ta_u (ta_u g3 1 ((g3 1) + 1)) 1 0) 0 ((g3 0) + 1)))))] H := hP
                          have hD : va_D A [(z 0, .inr (8, [.ref (z 1), .int (nI ty), .ref (z 2), .ref (z 3), .ref (z 4), .ref (z 5), .int (nI kn), .ref (z 6), .ref (z 7), .ref (z 8), .int (nI no), .int (nI at_), .int (nI so), .int (nI sr), .int (nI va), .ref (z 9)])), (z 2, .inl (k.1 0, 23, .inl (ta_e t))), (z 4, .inl (k.1 0, 66, .inl (ta_e (ta_u (ta_u (ta_u g3 1 ((g3 1) + 1)) 1 0) 0 ((g3 0) + 1)))))] := hD
                          refine lv_iload_n hx hb dX8_goes_216 rfl (lv_at hl 1 rfl) ?_
                          have e : ta_u (ta_u (ta_u g3 1 ((g3 1) + 1)) 1 0) 0 ((g3 0) + 1) = tg_go t g := by rw [ego]; unfold tg_wind; rw [if_pos (by omega), ta_uu]
                          have ekn : nI 4294967295 = nI (tg_kn g) := by unfold tg_kn; rw [epre, ← ha]; first | rw [if_pos (by omega)] | rw [if_neg (by omega)]
                          rw [e] at hP hD
                          exact ret _ () dX8_goes_217 rfl ekn hP hD hS
                    · exact absurd c41 (by decide)
                  · exact absurd c40 (by decide)
                · exact absurd c39 (by decide)
      · refine ta_nv (y := 3) h4 ?_
        refine lv_istore_n (lv' := [(3, .int (nI 3)), (2, .int (nI 4294967295)), (1, .int (nI 0)), (0, .ref (z 0))]) hx hb dX8_goes_44 rfl hl (by decide) rfl (fun ls hl => ?_)
        refine lv_iload_n hx hb dX8_goes_45 rfl (lv_at hl 0 rfl) ?_
        refine ta_iconst C 4294967295 dX8_goes_46 (by decide) ?_
        refine lv_icmp_eq (tgt := 174) hx hb dX8_goes_47 (by decide) (fun c45 => ?_) (fun c45 => ?_)
        · exact absurd c45 (by decide)
        · refine lv_iload_n hx hb dX8_goes_50 rfl (lv_at hl 0 rfl) ?_
          refine lv_if_eq (tgt := 59) hx hb dX8_goes_51 (by decide) (fun c46 => ?_) (fun c46 => ?_)
          · exact absurd c46 (by decide)
          · refine lv_iload_n hx hb dX8_goes_54 rfl (lv_at hl 0 rfl) ?_
            refine ta_iconst C 2 dX8_goes_55 (by decide) ?_
            refine lv_icmp_ne (tgt := 69) hx hb dX8_goes_56 (by decide) (fun c47 => ?_) (fun c47 => ?_)
            · refine lv_iload_n hx hb dX8_goes_69 rfl (lv_at hl 0 rfl) ?_
              refine ta_iconst C 2 dX8_goes_70 (by decide) ?_
              refine lv_icmp_ne (tgt := 84) hx hb dX8_goes_71 (by decide) (fun c48 => ?_) (fun c48 => ?_)
              · refine lv_iload_n hx hb dX8_goes_84 rfl (lv_at hl 0 rfl) ?_
                refine ta_iconst C 1 dX8_goes_85 (by decide) ?_
                refine lv_icmp_ne (tgt := 103) hx hb dX8_goes_86 (by decide) (fun c49 => ?_) (fun c49 => ?_)
                · refine lv_iload_n hx hb dX8_goes_103 rfl (lv_at hl 0 rfl) ?_
                  refine ta_iconst C 3 dX8_goes_104 (by decide) ?_
                  refine lv_icmp_ne (tgt := 124) hx hb dX8_goes_105 (by decide) (fun c50 => ?_) (fun c50 => ?_)
                  · exact absurd c50 (by decide)
                  · refine lv_aload_n hx hb dX8_goes_108 rfl (lv_at hl 3 rfl) ?_
                    refine ta_get C hP 0 inlX8 rfl rfl 4 (by decide) tw_128 rfl dX8_goes_109 ?_
                    refine ta_iconst C 3 dX8_goes_112 (by decide) ?_
                    refine lv_aload_n hx hb dX8_goes_113 rfl (lv_at hl 3 rfl) ?_
                    refine ta_get C hP 0 inlX8 rfl rfl 4 (by decide) tw_128 rfl dX8_goes_114 ?_
                    refine ta_iconst C 3 dX8_goes_117 (by decide) ?_
                    refine ta_iald C hP 2 rfl (i := 3) (by omega) dX8_goes_118 ?_
                    refine ta_iconst C 1 dX8_goes_119 (by decide) ?_
                    refine ta_iadd C (a := g1 3) (b := 1) dX8_goes_120 ?_
                    refine ta_iconst C 4 dX8_goes_121 (by decide) ?_
                    refine ta_irem C (a := (g1 3) + 1) (b := 4) (by omega) (by omega) (by omega) dX8_goes_122 ?_
                    refine ta_iast C hP hD hS 2 rfl (i := 3) (v := ((g1 3) + 1) % 4) (by omega) dX8_goes_123 (fun H locs hP hD hS => ?_)
                    have hP : va_P D vwCl [(z 0, .inr (8, [.ref (z 1), .int (nI ty), .ref (z 2), .ref (z 3), .ref (z 4), .ref (z 5), .int (nI kn), .ref (z 6), .ref (z 7), .ref (z 8), .int (nI no), .int (nI at_), .int (nI so), .int (nI sr), .int (nI va), .ref (z 9)])), (z 2, .inl (k.1 0, 23, .inl (ta_e t))), (z 4, .inl (k.1 0, 66, .inl (ta_e (ta_u g1 3 (((g1 3) + 1) % 4)))))] H := hP
                    have hD : va_D A [(z 0, .inr (8, [.ref (z 1), .int (nI ty), .ref (z 2), .ref (z 3), .ref (z 4), .ref (z 5), .int (nI kn), .ref (z 6), .ref (z 7), .ref (z 8), .int (nI no), .int (nI at_), .int (nI so), .int (nI sr), .int (nI va), .ref (z 9)])), (z 2, .inl (k.1 0, 23, .inl (ta_e t))), (z 4, .inl (k.1 0, 66, .inl (ta_e (ta_u g1 3 (((g1 3) + 1) % 4)))))] := hD
                    refine lv_iload_n hx hb dX8_goes_124 rfl (lv_at hl 0 rfl) ?_
                    refine ta_iconst C 4 dX8_goes_125 (by decide) ?_
                    refine lv_icmp_ne (tgt := 144) hx hb dX8_goes_126 (by decide) (fun c51 => ?_) (fun c51 => ?_)
                    · obtain ⟨g2, hg2⟩ : ∃ z, z = ta_u g1 3 (((g1 3) + 1) % 4) := ⟨_, rfl⟩
                      rw [← hg2] at hP hD
                      have eact : tg_act t g1 0 = g2 := by rw [hg2]; unfold tg_act; rw [if_neg (by omega), if_neg (by omega), if_neg (by omega), if_pos h4]
                      have k5 : g2 5 = g1 5 := by rw [← eact]; exact tg_act_k (by omega) e2 (by omega) (by omega) (by omega)
                      have hP : va_P D vwCl [(z 0, .inr (8, [.ref (z 1), .int (nI ty), .ref (z 2), .ref (z 3), .ref (z 4), .ref (z 5), .int (nI kn), .ref (z 6), .ref (z 7), .ref (z 8), .int (nI no), .int (nI at_), .int (nI so), .int (nI sr), .int (nI va), .ref (z 9)])), (z 2, .inl (k.1 0, 23, .inl (ta_e t))), (z 4, .inl (k.1 0, 66, .inl (ta_e g2)))] H := hP
                      have hD : va_D A [(z 0, .inr (8, [.ref (z 1), .int (nI ty), .ref (z 2), .ref (z 3), .ref (z 4), .ref (z 5), .int (nI kn), .ref (z 6), .ref (z 7), .ref (z 8), .int (nI no), .int (nI at_), .int (nI so), .int (nI sr), .int (nI va), .ref (z 9)])), (z 2, .inl (k.1 0, 23, .inl (ta_e t))), (z 4, .inl (k.1 0, 66, .inl (ta_e g2)))] := hD
                      refine lv_aload_n hx hb dX8_goes_144 rfl (lv_at hl 3 rfl) ?_
                      refine ta_get C hP 0 inlX8 rfl rfl 4 (by decide) tw_128 rfl dX8_goes_145 ?_
                      refine ta_iconst C 5 dX8_goes_148 (by decide) ?_
                      refine lv_dup2_11 hx hb dX8_goes_149 rfl rfl ?_
                      refine ta_iald C hP 2 rfl (i := 5) (by omega) dX8_goes_150 ?_
                      refine ta_iconst C 1 dX8_goes_151 (by decide) ?_
                      refine ta_isub C (a := g2 5) (b := 1) (by omega) dX8_goes_152 ?_
                      refine ta_iast C hP hD hS 2 rfl (i := 5) (v := (g2 5) - 1) (by omega) dX8_goes_153 (fun H locs hP hD hS => ?_)
                      have hP : va_P D vwCl [(z 0, .inr (8, [.ref (z 1), .int (nI ty), .ref (z 2), .ref (z 3), .ref (z 4), .ref (z 5), .int (nI kn), .ref (z 6), .ref (z 7), .ref (z 8), .int (nI no), .int (nI at_), .int (nI so), .int (nI sr), .int (nI va), .ref (z 9)])), (z 2, .inl (k.1 0, 23, .inl (ta_e t))), (z 4, .inl (k.1 0, 66, .inl (ta_e (ta_u g2 5 ((g2 5) - 1)))))] H := hP
                      have hD : va_D A [(z 0, .inr (8, [.ref (z 1), .int (nI ty), .ref (z 2), .ref (z 3), .ref (z 4), .ref (z 5), .int (nI kn), .ref (z 6), .ref (z 7), .ref (z 8), .int (nI no), .int (nI at_), .int (nI so), .int (nI sr), .int (nI va), .ref (z 9)])), (z 2, .inl (k.1 0, 23, .inl (ta_e t))), (z 4, .inl (k.1 0, 66, .inl (ta_e (ta_u g2 5 ((g2 5) - 1)))))] := hD
                      refine lv_aload_n hx hb dX8_goes_154 rfl (lv_at hl 3 rfl) ?_
                      refine ta_get C hP 0 inlX8 rfl rfl 4 (by decide) tw_128 rfl dX8_goes_155 ?_
                      refine ta_iconst C 4 dX8_goes_158 (by decide) ?_
                      refine lv_aload_n hx hb dX8_goes_159 rfl (lv_at hl 3 rfl) ?_
                      refine ta_get C hP 0 inlX8 rfl rfl 4 (by decide) tw_128 rfl dX8_goes_160 ?_
                      refine ta_iconst C 5 dX8_goes_163 (by decide) ?_
                      refine ta_iald C hP 2 rfl (i := 5) (by omega) dX8_goes_164 ?_
                      refine ta_nv (y := (g2 5) - 1) ta_us ?_
                      refine ta_ine C (a := (g2 5) - 1) (tgt := 172) (by omega) dX8_goes_165 (by decide) (fun c52 => ?_) (fun c52 => ?_)
                      · refine lv_iload_n hx hb dX8_goes_172 rfl (lv_at hl 0 rfl) ?_
                        refine ta_iast C hP hD hS 2 rfl (i := 4) (v := 3) (by omega) dX8_goes_173 (fun H locs hP hD hS => ?_)
                        have hP : va_P D vwCl [(z 0, .inr (8, [.ref (z 1), .int (nI ty), .ref (z 2), .ref (z 3), .ref (z 4), .ref (z 5), .int (nI kn), .ref (z 6), .ref (z 7), .ref (z 8), .int (nI no), .int (nI at_), .int (nI so), .int (nI sr), .int (nI va), .ref (z 9)])), (z 2, .inl (k.1 0, 23, .inl (ta_e t))), (z 4, .inl (k.1 0, 66, .inl (ta_e (ta_u (ta_u g2 5 ((g2 5) - 1)) 4 3))))] H := hP
                        have hD : va_D A [(z 0, .inr (8, [.ref (z 1), .int (nI ty), .ref (z 2), .ref (z 3), .ref (z 4), .ref (z 5), .int (nI kn), .ref (z 6), .ref (z 7), .ref (z 8), .int (nI no), .int (nI at_), .int (nI so), .int (nI sr), .int (nI va), .ref (z 9)])), (z 2, .inl (k.1 0, 23, .inl (ta_e t))), (z 4, .inl (k.1 0, 66, .inl (ta_e (ta_u (ta_u g2 5 ((g2 5) - 1)) 4 3))))] := hD
                        obtain ⟨g3, hg3⟩ : ∃ z, z = ta_u (ta_u g2 5 ((g2 5) - 1)) 4 3 := ⟨_, rfl⟩
                        rw [← hg3] at hP hD
                        have edo : tg_do t g1 0 = g3 := by unfold tg_do; rw [hg3, eact, k5, if_neg (by omega), h4]
                        have ego : tg_go t g = tg_wind t g3 1 := by unfold tg_go; rw [epre, ← ha, if_neg (by omega), edo]
                        have k1 : g3 1 = g1 1 := by rw [← edo]; exact tg_do_k (by omega) e2 (by omega) (by omega) (by omega) (by omega) (by omega)
                        have hP : va_P D vwCl [(z 0, .inr (8, [.ref (z 1), .int (nI ty), .ref (z 2), .ref (z 3), .ref (z 4), .ref (z 5), .int (nI kn), .ref (z 6), .ref (z 7), .ref (z 8), .int (nI no), .int (nI at_), .int (nI so), .int (nI sr), .int (nI va), .ref (z 9)])), (z 2, .inl (k.1 0, 23, .inl (ta_e t))), (z 4, .inl (k.1 0, 66, .inl (ta_e g3)))] H := hP
                        have hD : va_D A [(z 0, .inr (8, [.ref (z 1), .int (nI ty), .ref (z 2), .ref (z 3), .ref (z 4), .ref (z 5), .int (nI kn), .ref (z 6), .ref (z 7), .ref (z 8), .int (nI no), .int (nI at_), .int (nI so), .int (nI sr), .int (nI va), .ref (z 9)])), (z 2, .inl (k.1 0, 23, .inl (ta_e t))), (z 4, .inl (k.1 0, 66, .inl (ta_e g3)))] := hD
                        refine lv_aload_n hx hb dX8_goes_174 rfl (lv_at hl 3 rfl) ?_
                        refine ta_get C hP 0 inlX8 rfl rfl 4 (by decide) tw_128 rfl dX8_goes_175 ?_
                        refine ta_iconst C 1 dX8_goes_178 (by decide) ?_
                        refine lv_dup2_11 hx hb dX8_goes_179 rfl rfl ?_
                        refine ta_iald C hP 2 rfl (i := 1) (by omega) dX8_goes_180 ?_
                        refine ta_iconst C 1 dX8_goes_181 (by decide) ?_
                        refine ta_iadd C (a := g3 1) (b := 1) dX8_goes_182 ?_
                        refine ta_iast C hP hD hS 2 rfl (i := 1) (v := (g3 1) + 1) (by omega) dX8_goes_183 (fun H locs hP hD hS => ?_)
                        have hP : va_P D vwCl [(z 0, .inr (8, [.ref (z 1), .int (nI ty), .ref (z 2), .ref (z 3), .ref (z 4), .ref (z 5), .int (nI kn), .ref (z 6), .ref (z 7), .ref (z 8), .int (nI no), .int (nI at_), .int (nI so), .int (nI sr), .int (nI va), .ref (z 9)])), (z 2, .inl (k.1 0, 23, .inl (ta_e t))), (z 4, .inl (k.1 0, 66, .inl (ta_e (ta_u g3 1 ((g3 1) + 1)))))] H := hP
                        have hD : va_D A [(z 0, .inr (8, [.ref (z 1), .int (nI ty), .ref (z 2), .ref (z 3), .ref (z 4), .ref (z 5), .int (nI kn), .ref (z 6), .ref (z 7), .ref (z 8), .int (nI no), .int (nI at_), .int (nI so), .int (nI sr), .int (nI va), .ref (z 9)])), (z 2, .inl (k.1 0, 23, .inl (ta_e t))), (z 4, .inl (k.1 0, 66, .inl (ta_e (ta_u g3 1 ((g3 1) + 1)))))] := hD
                        refine lv_aload_n hx hb dX8_goes_184 rfl (lv_at hl 3 rfl) ?_
                        refine ta_get C hP 0 inlX8 rfl rfl 4 (by decide) tw_128 rfl dX8_goes_185 ?_
                        refine ta_iconst C 1 dX8_goes_188 (by decide) ?_
                        refine ta_iald C hP 2 rfl (i := 1) (by omega) dX8_goes_189 ?_
                        refine ta_nv (y := (g3 1) + 1) ta_us ?_
                        refine lv_aload_n hx hb dX8_goes_190 rfl (lv_at hl 3 rfl) ?_
                        refine ta_get C hP 0 inlX8 rfl rfl 2 (by decide) tw_126 rfl dX8_goes_191 ?_
                        refine ta_iconst C 2 dX8_goes_194 (by decide) ?_
                        refine ta_iald C hP 1 rfl (i := 2) (by omega) dX8_goes_195 ?_
                        refine ta_cne C (a := (g3 1) + 1) (b := t 2) (tgt := 216) (by omega) (by omega) dX8_goes_196 (by decide) (fun c53 => ?_) (fun c53 => ?_)
                        · refine lv_iload_n hx hb dX8_goes_216 rfl (lv_at hl 1 rfl) ?_
                          have e : ta_u g3 1 ((g3 1) + 1) = tg_go t g := by rw [ego]; unfold tg_wind; rw [if_neg (by omega)]
                          have ekn : nI 4294967295 = nI (tg_kn g) := by unfold tg_kn; rw [epre, ← ha]; first | rw [if_pos (by omega)] | rw [if_neg (by omega)]
                          rw [e] at hP hD
                          exact ret _ () dX8_goes_217 rfl ekn hP hD hS
                        · refine lv_aload_n hx hb dX8_goes_199 rfl (lv_at hl 3 rfl) ?_
                          refine ta_get C hP 0 inlX8 rfl rfl 4 (by decide) tw_128 rfl dX8_goes_200 ?_
                          refine ta_iconst C 1 dX8_goes_203 (by decide) ?_
                          refine ta_iconst C 0 dX8_goes_204 (by decide) ?_
                          refine ta_iast C hP hD hS 2 rfl (i := 1) (v := 0) (by omega) dX8_goes_205 (fun H locs hP hD hS => ?_)
                          have hP : va_P D vwCl [(z 0, .inr (8, [.ref (z 1), .int (nI ty), .ref (z 2), .ref (z 3), .ref (z 4), .ref (z 5), .int (nI kn), .ref (z 6), .ref (z 7), .ref (z 8), .int (nI no), .int (nI at_), .int (nI so), .int (nI sr), .int (nI va), .ref (z 9)])), (z 2, .inl (k.1 0, 23, .inl (ta_e t))), (z 4, .inl (k.1 0, 66, .inl (ta_e (ta_u (ta_u g3 1 ((g3 1) + 1)) 1 0))))] H := hP
                          have hD : va_D A [(z 0, .inr (8, [.ref (z 1), .int (nI ty), .ref (z 2), .ref (z 3), .ref (z 4), .ref (z 5), .int (nI kn), .ref (z 6), .ref (z 7), .ref (z 8), .int (nI no), .int (nI at_), .int (nI so), .int (nI sr), .int (nI va), .ref (z 9)])), (z 2, .inl (k.1 0, 23, .inl (ta_e t))), (z 4, .inl (k.1 0, 66, .inl (ta_e (ta_u (ta_u g3 1 ((g3 1) + 1)) 1 0))))] := hD
                          refine lv_aload_n hx hb dX8_goes_206 rfl (lv_at hl 3 rfl) ?_
                          refine ta_get C hP 0 inlX8 rfl rfl 4 (by decide) tw_128 rfl dX8_goes_207 ?_
                          refine ta_iconst C 0 dX8_goes_210 (by decide) ?_
                          refine lv_dup2_11 hx hb dX8_goes_211 rfl rfl ?_
                          refine ta_iald C hP 2 rfl (i := 0) (by omega) dX8_goes_212 ?_
                          refine ta_nv (y := (ta_u g3 1 ((g3 1) + 1)) 0) (ta_un (by decide)) ?_
                          refine ta_nv (y := g3 0) (ta_un (by decide)) ?_
                          refine ta_iconst C 1 dX8_goes_213 (by decide) ?_
                          refine ta_iadd C (a := g3 0) (b := 1) dX8_goes_214 ?_
                          refine ta_iast C hP hD hS 2 rfl (i := 0) (v := (g3 0) + 1) (by omega) dX8_goes_215 (fun H locs hP hD hS => ?_)
                          have hP : va_P D vwCl [(z 0, .inr (8, [.ref (z 1), .int (nI ty), .ref (z 2), .ref (z 3), .ref (z 4), .ref (z 5), .int (nI kn), .ref (z 6), .ref (z 7), .ref (z 8), .int (nI no), .int (nI at_), .int (nI so), .int (nI sr), .int (nI va), .ref (z 9)])), (z 2, .inl (k.1 0, 23, .inl (ta_e t))), (z 4, .inl (k.1 0, 66, .inl (ta_e (ta_u (ta_u (ta_u g3 1 ((g3 1) + 1)) 1 0) 0 ((g3 0) + 1)))))] H := hP
                          have hD : va_D A [(z 0, .inr (8, [.ref (z 1), .int (nI ty), .ref (z 2), .ref (z 3), .ref (z 4), .ref (z 5), .int (nI kn), .ref (z 6), .ref (z 7), .ref (z 8), .int (nI no), .int (nI at_), .int (nI so), .int (nI sr), .int (nI va), .ref (z 9)])), (z 2, .inl (k.1 0, 23, .inl (ta_e t))), (z 4, .inl (k.1 0, 66, .inl (ta_e (ta_u (ta_u (ta_u g3 1 ((g3 1) + 1)) 1 0) 0 ((g3 0) + 1)))))] := hD
                          refine lv_iload_n hx hb dX8_goes_216 rfl (lv_at hl 1 rfl) ?_
                          have e : ta_u (ta_u (ta_u g3 1 ((g3 1) + 1)) 1 0) 0 ((g3 0) + 1) = tg_go t g := by rw [ego]; unfold tg_wind; rw [if_pos (by omega), ta_uu]
                          have ekn : nI 4294967295 = nI (tg_kn g) := by unfold tg_kn; rw [epre, ← ha]; first | rw [if_pos (by omega)] | rw [if_neg (by omega)]
                          rw [e] at hP hD
                          exact ret _ () dX8_goes_217 rfl ekn hP hD hS
                      · refine ta_iconst C 4294967295 dX8_goes_168 (by decide) ?_
                        refine lv_goto (tgt := 173) hx hb dX8_goes_169 (by decide) ?_
                        refine ta_iast C hP hD hS 2 rfl (i := 4) (v := 4294967295) (by omega) dX8_goes_173 (fun H locs hP hD hS => ?_)
                        have hP : va_P D vwCl [(z 0, .inr (8, [.ref (z 1), .int (nI ty), .ref (z 2), .ref (z 3), .ref (z 4), .ref (z 5), .int (nI kn), .ref (z 6), .ref (z 7), .ref (z 8), .int (nI no), .int (nI at_), .int (nI so), .int (nI sr), .int (nI va), .ref (z 9)])), (z 2, .inl (k.1 0, 23, .inl (ta_e t))), (z 4, .inl (k.1 0, 66, .inl (ta_e (ta_u (ta_u g2 5 ((g2 5) - 1)) 4 4294967295))))] H := hP
                        have hD : va_D A [(z 0, .inr (8, [.ref (z 1), .int (nI ty), .ref (z 2), .ref (z 3), .ref (z 4), .ref (z 5), .int (nI kn), .ref (z 6), .ref (z 7), .ref (z 8), .int (nI no), .int (nI at_), .int (nI so), .int (nI sr), .int (nI va), .ref (z 9)])), (z 2, .inl (k.1 0, 23, .inl (ta_e t))), (z 4, .inl (k.1 0, 66, .inl (ta_e (ta_u (ta_u g2 5 ((g2 5) - 1)) 4 4294967295))))] := hD
                        obtain ⟨g3, hg3⟩ : ∃ z, z = ta_u (ta_u g2 5 ((g2 5) - 1)) 4 4294967295 := ⟨_, rfl⟩
                        rw [← hg3] at hP hD
                        have edo : tg_do t g1 0 = g3 := by unfold tg_do; rw [hg3, eact, k5, if_pos (by omega)]
                        have ego : tg_go t g = tg_wind t g3 1 := by unfold tg_go; rw [epre, ← ha, if_neg (by omega), edo]
                        have k1 : g3 1 = g1 1 := by rw [← edo]; exact tg_do_k (by omega) e2 (by omega) (by omega) (by omega) (by omega) (by omega)
                        have hP : va_P D vwCl [(z 0, .inr (8, [.ref (z 1), .int (nI ty), .ref (z 2), .ref (z 3), .ref (z 4), .ref (z 5), .int (nI kn), .ref (z 6), .ref (z 7), .ref (z 8), .int (nI no), .int (nI at_), .int (nI so), .int (nI sr), .int (nI va), .ref (z 9)])), (z 2, .inl (k.1 0, 23, .inl (ta_e t))), (z 4, .inl (k.1 0, 66, .inl (ta_e g3)))] H := hP
                        have hD : va_D A [(z 0, .inr (8, [.ref (z 1), .int (nI ty), .ref (z 2), .ref (z 3), .ref (z 4), .ref (z 5), .int (nI kn), .ref (z 6), .ref (z 7), .ref (z 8), .int (nI no), .int (nI at_), .int (nI so), .int (nI sr), .int (nI va), .ref (z 9)])), (z 2, .inl (k.1 0, 23, .inl (ta_e t))), (z 4, .inl (k.1 0, 66, .inl (ta_e g3)))] := hD
                        refine lv_aload_n hx hb dX8_goes_174 rfl (lv_at hl 3 rfl) ?_
                        refine ta_get C hP 0 inlX8 rfl rfl 4 (by decide) tw_128 rfl dX8_goes_175 ?_
                        refine ta_iconst C 1 dX8_goes_178 (by decide) ?_
                        refine lv_dup2_11 hx hb dX8_goes_179 rfl rfl ?_
                        refine ta_iald C hP 2 rfl (i := 1) (by omega) dX8_goes_180 ?_
                        refine ta_iconst C 1 dX8_goes_181 (by decide) ?_
                        refine ta_iadd C (a := g3 1) (b := 1) dX8_goes_182 ?_
                        refine ta_iast C hP hD hS 2 rfl (i := 1) (v := (g3 1) + 1) (by omega) dX8_goes_183 (fun H locs hP hD hS => ?_)
                        have hP : va_P D vwCl [(z 0, .inr (8, [.ref (z 1), .int (nI ty), .ref (z 2), .ref (z 3), .ref (z 4), .ref (z 5), .int (nI kn), .ref (z 6), .ref (z 7), .ref (z 8), .int (nI no), .int (nI at_), .int (nI so), .int (nI sr), .int (nI va), .ref (z 9)])), (z 2, .inl (k.1 0, 23, .inl (ta_e t))), (z 4, .inl (k.1 0, 66, .inl (ta_e (ta_u g3 1 ((g3 1) + 1)))))] H := hP
                        have hD : va_D A [(z 0, .inr (8, [.ref (z 1), .int (nI ty), .ref (z 2), .ref (z 3), .ref (z 4), .ref (z 5), .int (nI kn), .ref (z 6), .ref (z 7), .ref (z 8), .int (nI no), .int (nI at_), .int (nI so), .int (nI sr), .int (nI va), .ref (z 9)])), (z 2, .inl (k.1 0, 23, .inl (ta_e t))), (z 4, .inl (k.1 0, 66, .inl (ta_e (ta_u g3 1 ((g3 1) + 1)))))] := hD
                        refine lv_aload_n hx hb dX8_goes_184 rfl (lv_at hl 3 rfl) ?_
                        refine ta_get C hP 0 inlX8 rfl rfl 4 (by decide) tw_128 rfl dX8_goes_185 ?_
                        refine ta_iconst C 1 dX8_goes_188 (by decide) ?_
                        refine ta_iald C hP 2 rfl (i := 1) (by omega) dX8_goes_189 ?_
                        refine ta_nv (y := (g3 1) + 1) ta_us ?_
                        refine lv_aload_n hx hb dX8_goes_190 rfl (lv_at hl 3 rfl) ?_
                        refine ta_get C hP 0 inlX8 rfl rfl 2 (by decide) tw_126 rfl dX8_goes_191 ?_
                        refine ta_iconst C 2 dX8_goes_194 (by decide) ?_
                        refine ta_iald C hP 1 rfl (i := 2) (by omega) dX8_goes_195 ?_
                        refine ta_cne C (a := (g3 1) + 1) (b := t 2) (tgt := 216) (by omega) (by omega) dX8_goes_196 (by decide) (fun c54 => ?_) (fun c54 => ?_)
                        · refine lv_iload_n hx hb dX8_goes_216 rfl (lv_at hl 1 rfl) ?_
                          have e : ta_u g3 1 ((g3 1) + 1) = tg_go t g := by rw [ego]; unfold tg_wind; rw [if_neg (by omega)]
                          have ekn : nI 4294967295 = nI (tg_kn g) := by unfold tg_kn; rw [epre, ← ha]; first | rw [if_pos (by omega)] | rw [if_neg (by omega)]
                          rw [e] at hP hD
                          exact ret _ () dX8_goes_217 rfl ekn hP hD hS
                        · refine lv_aload_n hx hb dX8_goes_199 rfl (lv_at hl 3 rfl) ?_
                          refine ta_get C hP 0 inlX8 rfl rfl 4 (by decide) tw_128 rfl dX8_goes_200 ?_
                          refine ta_iconst C 1 dX8_goes_203 (by decide) ?_
                          refine ta_iconst C 0 dX8_goes_204 (by decide) ?_
                          refine ta_iast C hP hD hS 2 rfl (i := 1) (v := 0) (by omega) dX8_goes_205 (fun H locs hP hD hS => ?_)
                          have hP : va_P D vwCl [(z 0, .inr (8, [.ref (z 1), .int (nI ty), .ref (z 2), .ref (z 3), .ref (z 4), .ref (z 5), .int (nI kn), .ref (z 6), .ref (z 7), .ref (z 8), .int (nI no), .int (nI at_), .int (nI so), .int (nI sr), .int (nI va), .ref (z 9)])), (z 2, .inl (k.1 0, 23, .inl (ta_e t))), (z 4, .inl (k.1 0, 66, .inl (ta_e (ta_u (ta_u g3 1 ((g3 1) + 1)) 1 0))))] H := hP
                          have hD : va_D A [(z 0, .inr (8, [.ref (z 1), .int (nI ty), .ref (z 2), .ref (z 3), .ref (z 4), .ref (z 5), .int (nI kn), .ref (z 6), .ref (z 7), .ref (z 8), .int (nI no), .int (nI at_), .int (nI so), .int (nI sr), .int (nI va), .ref (z 9)])), (z 2, .inl (k.1 0, 23, .inl (ta_e t))), (z 4, .inl (k.1 0, 66, .inl (ta_e (ta_u (ta_u g3 1 ((g3 1) + 1)) 1 0))))] := hD
                          refine lv_aload_n hx hb dX8_goes_206 rfl (lv_at hl 3 rfl) ?_
                          refine ta_get C hP 0 inlX8 rfl rfl 4 (by decide) tw_128 rfl dX8_goes_207 ?_
                          refine ta_iconst C 0 dX8_goes_210 (by decide) ?_
                          refine lv_dup2_11 hx hb dX8_goes_211 rfl rfl ?_
                          refine ta_iald C hP 2 rfl (i := 0) (by omega) dX8_goes_212 ?_
                          refine ta_nv (y := (ta_u g3 1 ((g3 1) + 1)) 0) (ta_un (by decide)) ?_
                          refine ta_nv (y := g3 0) (ta_un (by decide)) ?_
                          refine ta_iconst C 1 dX8_goes_213 (by decide) ?_
                          refine ta_iadd C (a := g3 0) (b := 1) dX8_goes_214 ?_
                          refine ta_iast C hP hD hS 2 rfl (i := 0) (v := (g3 0) + 1) (by omega) dX8_goes_215 (fun H locs hP hD hS => ?_)
                          have hP : va_P D vwCl [(z 0, .inr (8, [.ref (z 1), .int (nI ty), .ref (z 2), .ref (z 3), .ref (z 4), .ref (z 5), .int (nI kn), .ref (z 6), .ref (z 7), .ref (z 8), .int (nI no), .int (nI at_), .int (nI so), .int (nI sr), .int (nI va), .ref (z 9)])), (z 2, .inl (k.1 0, 23, .inl (ta_e t))), (z 4, .inl (k.1 0, 66, .inl (ta_e (ta_u (ta_u (ta_u g3 1 ((g3 1) + 1)) 1 0) 0 ((g3 0) + 1)))))] H := hP
                          have hD : va_D A [(z 0, .inr (8, [.ref (z 1), .int (nI ty), .ref (z 2), .ref (z 3), .ref (z 4), .ref (z 5), .int (nI kn), .ref (z 6), .ref (z 7), .ref (z 8), .int (nI no), .int (nI at_), .int (nI so), .int (nI sr), .int (nI va), .ref (z 9)])), (z 2, .inl (k.1 0, 23, .inl (ta_e t))), (z 4, .inl (k.1 0, 66, .inl (ta_e (ta_u (ta_u (ta_u g3 1 ((g3 1) + 1)) 1 0) 0 ((g3 0) + 1)))))] := hD
                          refine lv_iload_n hx hb dX8_goes_216 rfl (lv_at hl 1 rfl) ?_
                          have e : ta_u (ta_u (ta_u g3 1 ((g3 1) + 1)) 1 0) 0 ((g3 0) + 1) = tg_go t g := by rw [ego]; unfold tg_wind; rw [if_pos (by omega), ta_uu]
                          have ekn : nI 4294967295 = nI (tg_kn g) := by unfold tg_kn; rw [epre, ← ha]; first | rw [if_pos (by omega)] | rw [if_neg (by omega)]
                          rw [e] at hP hD
                          exact ret _ () dX8_goes_217 rfl ekn hP hD hS
                    · exact absurd c51 (by decide)
                · exact absurd c49 (by decide)
              · exact absurd c48 (by decide)
            · exact absurd c47 (by decide)
      · refine ta_nv (y := 4) h4 ?_
        refine lv_istore_n (lv' := [(3, .int (nI 4)), (2, .int (nI 4294967295)), (1, .int (nI 0)), (0, .ref (z 0))]) hx hb dX8_goes_44 rfl hl (by decide) rfl (fun ls hl => ?_)
        refine lv_iload_n hx hb dX8_goes_45 rfl (lv_at hl 0 rfl) ?_
        refine ta_iconst C 4294967295 dX8_goes_46 (by decide) ?_
        refine lv_icmp_eq (tgt := 174) hx hb dX8_goes_47 (by decide) (fun c55 => ?_) (fun c55 => ?_)
        · exact absurd c55 (by decide)
        · refine lv_iload_n hx hb dX8_goes_50 rfl (lv_at hl 0 rfl) ?_
          refine lv_if_eq (tgt := 59) hx hb dX8_goes_51 (by decide) (fun c56 => ?_) (fun c56 => ?_)
          · exact absurd c56 (by decide)
          · refine lv_iload_n hx hb dX8_goes_54 rfl (lv_at hl 0 rfl) ?_
            refine ta_iconst C 2 dX8_goes_55 (by decide) ?_
            refine lv_icmp_ne (tgt := 69) hx hb dX8_goes_56 (by decide) (fun c57 => ?_) (fun c57 => ?_)
            · refine lv_iload_n hx hb dX8_goes_69 rfl (lv_at hl 0 rfl) ?_
              refine ta_iconst C 2 dX8_goes_70 (by decide) ?_
              refine lv_icmp_ne (tgt := 84) hx hb dX8_goes_71 (by decide) (fun c58 => ?_) (fun c58 => ?_)
              · refine lv_iload_n hx hb dX8_goes_84 rfl (lv_at hl 0 rfl) ?_
                refine ta_iconst C 1 dX8_goes_85 (by decide) ?_
                refine lv_icmp_ne (tgt := 103) hx hb dX8_goes_86 (by decide) (fun c59 => ?_) (fun c59 => ?_)
                · refine lv_iload_n hx hb dX8_goes_103 rfl (lv_at hl 0 rfl) ?_
                  refine ta_iconst C 3 dX8_goes_104 (by decide) ?_
                  refine lv_icmp_ne (tgt := 124) hx hb dX8_goes_105 (by decide) (fun c60 => ?_) (fun c60 => ?_)
                  · refine lv_iload_n hx hb dX8_goes_124 rfl (lv_at hl 0 rfl) ?_
                    refine ta_iconst C 4 dX8_goes_125 (by decide) ?_
                    refine lv_icmp_ne (tgt := 144) hx hb dX8_goes_126 (by decide) (fun c61 => ?_) (fun c61 => ?_)
                    · exact absurd c61 (by decide)
                    · refine lv_aload_n hx hb dX8_goes_129 rfl (lv_at hl 3 rfl) ?_
                      refine ta_get C hP 0 inlX8 rfl rfl 4 (by decide) tw_128 rfl dX8_goes_130 ?_
                      refine ta_bipush C 24 dX8_goes_133 (by decide) ?_
                      refine lv_iload_n hx hb dX8_goes_135 rfl (lv_at hl 2 rfl) ?_
                      refine ta_iadd C (a := 24) (b := 0) dX8_goes_136 ?_
                      refine lv_dup2_11 hx hb dX8_goes_137 rfl rfl ?_
                      refine ta_iald C hP 2 rfl (i := 24) (by omega) dX8_goes_138 ?_
                      refine ta_iconst C 1 dX8_goes_139 (by decide) ?_
                      refine ta_iadd C (a := g1 24) (b := 1) dX8_goes_140 ?_
                      refine ta_iast C hP hD hS 2 rfl (i := 24) (v := (g1 24) + 1) (by omega) dX8_goes_141 (fun H locs hP hD hS => ?_)
                      have hP : va_P D vwCl [(z 0, .inr (8, [.ref (z 1), .int (nI ty), .ref (z 2), .ref (z 3), .ref (z 4), .ref (z 5), .int (nI kn), .ref (z 6), .ref (z 7), .ref (z 8), .int (nI no), .int (nI at_), .int (nI so), .int (nI sr), .int (nI va), .ref (z 9)])), (z 2, .inl (k.1 0, 23, .inl (ta_e t))), (z 4, .inl (k.1 0, 66, .inl (ta_e (ta_u g1 24 ((g1 24) + 1)))))] H := hP
                      have hD : va_D A [(z 0, .inr (8, [.ref (z 1), .int (nI ty), .ref (z 2), .ref (z 3), .ref (z 4), .ref (z 5), .int (nI kn), .ref (z 6), .ref (z 7), .ref (z 8), .int (nI no), .int (nI at_), .int (nI so), .int (nI sr), .int (nI va), .ref (z 9)])), (z 2, .inl (k.1 0, 23, .inl (ta_e t))), (z 4, .inl (k.1 0, 66, .inl (ta_e (ta_u g1 24 ((g1 24) + 1)))))] := hD
                      refine lv_iload_n hx hb dX8_goes_142 rfl (lv_at hl 2 rfl) ?_
                      refine lv_istore_n (lv' := [(2, .int (nI 0)), (3, .int (nI 4)), (1, .int (nI 0)), (0, .ref (z 0))]) hx hb dX8_goes_143 rfl hl (by decide) rfl (fun ls hl => ?_)
                      obtain ⟨g2, hg2⟩ : ∃ z, z = ta_u g1 24 ((g1 24) + 1) := ⟨_, rfl⟩
                      rw [← hg2] at hP hD
                      have eact : tg_act t g1 0 = g2 := by rw [hg2]; unfold tg_act; rw [if_neg (by omega), if_neg (by omega), if_neg (by omega), if_neg (by omega)]
                      have k5 : g2 5 = g1 5 := by rw [← eact]; exact tg_act_k (by omega) e2 (by omega) (by omega) (by omega)
                      have hP : va_P D vwCl [(z 0, .inr (8, [.ref (z 1), .int (nI ty), .ref (z 2), .ref (z 3), .ref (z 4), .ref (z 5), .int (nI kn), .ref (z 6), .ref (z 7), .ref (z 8), .int (nI no), .int (nI at_), .int (nI so), .int (nI sr), .int (nI va), .ref (z 9)])), (z 2, .inl (k.1 0, 23, .inl (ta_e t))), (z 4, .inl (k.1 0, 66, .inl (ta_e g2)))] H := hP
                      have hD : va_D A [(z 0, .inr (8, [.ref (z 1), .int (nI ty), .ref (z 2), .ref (z 3), .ref (z 4), .ref (z 5), .int (nI kn), .ref (z 6), .ref (z 7), .ref (z 8), .int (nI no), .int (nI at_), .int (nI so), .int (nI sr), .int (nI va), .ref (z 9)])), (z 2, .inl (k.1 0, 23, .inl (ta_e t))), (z 4, .inl (k.1 0, 66, .inl (ta_e g2)))] := hD
                      refine lv_aload_n hx hb dX8_goes_144 rfl (lv_at hl 3 rfl) ?_
                      refine ta_get C hP 0 inlX8 rfl rfl 4 (by decide) tw_128 rfl dX8_goes_145 ?_
                      refine ta_iconst C 5 dX8_goes_148 (by decide) ?_
                      refine lv_dup2_11 hx hb dX8_goes_149 rfl rfl ?_
                      refine ta_iald C hP 2 rfl (i := 5) (by omega) dX8_goes_150 ?_
                      refine ta_iconst C 1 dX8_goes_151 (by decide) ?_
                      refine ta_isub C (a := g2 5) (b := 1) (by omega) dX8_goes_152 ?_
                      refine ta_iast C hP hD hS 2 rfl (i := 5) (v := (g2 5) - 1) (by omega) dX8_goes_153 (fun H locs hP hD hS => ?_)
                      have hP : va_P D vwCl [(z 0, .inr (8, [.ref (z 1), .int (nI ty), .ref (z 2), .ref (z 3), .ref (z 4), .ref (z 5), .int (nI kn), .ref (z 6), .ref (z 7), .ref (z 8), .int (nI no), .int (nI at_), .int (nI so), .int (nI sr), .int (nI va), .ref (z 9)])), (z 2, .inl (k.1 0, 23, .inl (ta_e t))), (z 4, .inl (k.1 0, 66, .inl (ta_e (ta_u g2 5 ((g2 5) - 1)))))] H := hP
                      have hD : va_D A [(z 0, .inr (8, [.ref (z 1), .int (nI ty), .ref (z 2), .ref (z 3), .ref (z 4), .ref (z 5), .int (nI kn), .ref (z 6), .ref (z 7), .ref (z 8), .int (nI no), .int (nI at_), .int (nI so), .int (nI sr), .int (nI va), .ref (z 9)])), (z 2, .inl (k.1 0, 23, .inl (ta_e t))), (z 4, .inl (k.1 0, 66, .inl (ta_e (ta_u g2 5 ((g2 5) - 1)))))] := hD
                      refine lv_aload_n hx hb dX8_goes_154 rfl (lv_at hl 3 rfl) ?_
                      refine ta_get C hP 0 inlX8 rfl rfl 4 (by decide) tw_128 rfl dX8_goes_155 ?_
                      refine ta_iconst C 4 dX8_goes_158 (by decide) ?_
                      refine lv_aload_n hx hb dX8_goes_159 rfl (lv_at hl 3 rfl) ?_
                      refine ta_get C hP 0 inlX8 rfl rfl 4 (by decide) tw_128 rfl dX8_goes_160 ?_
                      refine ta_iconst C 5 dX8_goes_163 (by decide) ?_
                      refine ta_iald C hP 2 rfl (i := 5) (by omega) dX8_goes_164 ?_
                      refine ta_nv (y := (g2 5) - 1) ta_us ?_
                      refine ta_ine C (a := (g2 5) - 1) (tgt := 172) (by omega) dX8_goes_165 (by decide) (fun c62 => ?_) (fun c62 => ?_)
                      · refine lv_iload_n hx hb dX8_goes_172 rfl (lv_at hl 1 rfl) ?_
                        refine ta_iast C hP hD hS 2 rfl (i := 4) (v := 4) (by omega) dX8_goes_173 (fun H locs hP hD hS => ?_)
                        have hP : va_P D vwCl [(z 0, .inr (8, [.ref (z 1), .int (nI ty), .ref (z 2), .ref (z 3), .ref (z 4), .ref (z 5), .int (nI kn), .ref (z 6), .ref (z 7), .ref (z 8), .int (nI no), .int (nI at_), .int (nI so), .int (nI sr), .int (nI va), .ref (z 9)])), (z 2, .inl (k.1 0, 23, .inl (ta_e t))), (z 4, .inl (k.1 0, 66, .inl (ta_e (ta_u (ta_u g2 5 ((g2 5) - 1)) 4 4))))] H := hP
                        have hD : va_D A [(z 0, .inr (8, [.ref (z 1), .int (nI ty), .ref (z 2), .ref (z 3), .ref (z 4), .ref (z 5), .int (nI kn), .ref (z 6), .ref (z 7), .ref (z 8), .int (nI no), .int (nI at_), .int (nI so), .int (nI sr), .int (nI va), .ref (z 9)])), (z 2, .inl (k.1 0, 23, .inl (ta_e t))), (z 4, .inl (k.1 0, 66, .inl (ta_e (ta_u (ta_u g2 5 ((g2 5) - 1)) 4 4))))] := hD
                        obtain ⟨g3, hg3⟩ : ∃ z, z = ta_u (ta_u g2 5 ((g2 5) - 1)) 4 4 := ⟨_, rfl⟩
                        rw [← hg3] at hP hD
                        have edo : tg_do t g1 0 = g3 := by unfold tg_do; rw [hg3, eact, k5, if_neg (by omega), h4]
                        have ego : tg_go t g = tg_wind t g3 1 := by unfold tg_go; rw [epre, ← ha, if_neg (by omega), edo]
                        have k1 : g3 1 = g1 1 := by rw [← edo]; exact tg_do_k (by omega) e2 (by omega) (by omega) (by omega) (by omega) (by omega)
                        have hP : va_P D vwCl [(z 0, .inr (8, [.ref (z 1), .int (nI ty), .ref (z 2), .ref (z 3), .ref (z 4), .ref (z 5), .int (nI kn), .ref (z 6), .ref (z 7), .ref (z 8), .int (nI no), .int (nI at_), .int (nI so), .int (nI sr), .int (nI va), .ref (z 9)])), (z 2, .inl (k.1 0, 23, .inl (ta_e t))), (z 4, .inl (k.1 0, 66, .inl (ta_e g3)))] H := hP
                        have hD : va_D A [(z 0, .inr (8, [.ref (z 1), .int (nI ty), .ref (z 2), .ref (z 3), .ref (z 4), .ref (z 5), .int (nI kn), .ref (z 6), .ref (z 7), .ref (z 8), .int (nI no), .int (nI at_), .int (nI so), .int (nI sr), .int (nI va), .ref (z 9)])), (z 2, .inl (k.1 0, 23, .inl (ta_e t))), (z 4, .inl (k.1 0, 66, .inl (ta_e g3)))] := hD
                        refine lv_aload_n hx hb dX8_goes_174 rfl (lv_at hl 3 rfl) ?_
                        refine ta_get C hP 0 inlX8 rfl rfl 4 (by decide) tw_128 rfl dX8_goes_175 ?_
                        refine ta_iconst C 1 dX8_goes_178 (by decide) ?_
                        refine lv_dup2_11 hx hb dX8_goes_179 rfl rfl ?_
                        refine ta_iald C hP 2 rfl (i := 1) (by omega) dX8_goes_180 ?_
                        refine ta_iconst C 1 dX8_goes_181 (by decide) ?_
                        refine ta_iadd C (a := g3 1) (b := 1) dX8_goes_182 ?_
                        refine ta_iast C hP hD hS 2 rfl (i := 1) (v := (g3 1) + 1) (by omega) dX8_goes_183 (fun H locs hP hD hS => ?_)
                        have hP : va_P D vwCl [(z 0, .inr (8, [.ref (z 1), .int (nI ty), .ref (z 2), .ref (z 3), .ref (z 4), .ref (z 5), .int (nI kn), .ref (z 6), .ref (z 7), .ref (z 8), .int (nI no), .int (nI at_), .int (nI so), .int (nI sr), .int (nI va), .ref (z 9)])), (z 2, .inl (k.1 0, 23, .inl (ta_e t))), (z 4, .inl (k.1 0, 66, .inl (ta_e (ta_u g3 1 ((g3 1) + 1)))))] H := hP
                        have hD : va_D A [(z 0, .inr (8, [.ref (z 1), .int (nI ty), .ref (z 2), .ref (z 3), .ref (z 4), .ref (z 5), .int (nI kn), .ref (z 6), .ref (z 7), .ref (z 8), .int (nI no), .int (nI at_), .int (nI so), .int (nI sr), .int (nI va), .ref (z 9)])), (z 2, .inl (k.1 0, 23, .inl (ta_e t))), (z 4, .inl (k.1 0, 66, .inl (ta_e (ta_u g3 1 ((g3 1) + 1)))))] := hD
                        refine lv_aload_n hx hb dX8_goes_184 rfl (lv_at hl 3 rfl) ?_
                        refine ta_get C hP 0 inlX8 rfl rfl 4 (by decide) tw_128 rfl dX8_goes_185 ?_
                        refine ta_iconst C 1 dX8_goes_188 (by decide) ?_
                        refine ta_iald C hP 2 rfl (i := 1) (by omega) dX8_goes_189 ?_
                        refine ta_nv (y := (g3 1) + 1) ta_us ?_
                        refine lv_aload_n hx hb dX8_goes_190 rfl (lv_at hl 3 rfl) ?_
                        refine ta_get C hP 0 inlX8 rfl rfl 2 (by decide) tw_126 rfl dX8_goes_191 ?_
                        refine ta_iconst C 2 dX8_goes_194 (by decide) ?_
                        refine ta_iald C hP 1 rfl (i := 2) (by omega) dX8_goes_195 ?_
                        refine ta_cne C (a := (g3 1) + 1) (b := t 2) (tgt := 216) (by omega) (by omega) dX8_goes_196 (by decide) (fun c63 => ?_) (fun c63 => ?_)
                        · refine lv_iload_n hx hb dX8_goes_216 rfl (lv_at hl 0 rfl) ?_
                          have e : ta_u g3 1 ((g3 1) + 1) = tg_go t g := by rw [ego]; unfold tg_wind; rw [if_neg (by omega)]
                          have ekn : nI 0 = nI (tg_kn g) := by unfold tg_kn; rw [epre, ← ha]; first | rw [if_pos (by omega)] | rw [if_neg (by omega)]
                          rw [e] at hP hD
                          exact ret _ () dX8_goes_217 rfl ekn hP hD hS
                        · refine lv_aload_n hx hb dX8_goes_199 rfl (lv_at hl 3 rfl) ?_
                          refine ta_get C hP 0 inlX8 rfl rfl 4 (by decide) tw_128 rfl dX8_goes_200 ?_
                          refine ta_iconst C 1 dX8_goes_203 (by decide) ?_
                          refine ta_iconst C 0 dX8_goes_204 (by decide) ?_
                          refine ta_iast C hP hD hS 2 rfl (i := 1) (v := 0) (by omega) dX8_goes_205 (fun H locs hP hD hS => ?_)
                          have hP : va_P D vwCl [(z 0, .inr (8, [.ref (z 1), .int (nI ty), .ref (z 2), .ref (z 3), .ref (z 4), .ref (z 5), .int (nI kn), .ref (z 6), .ref (z 7), .ref (z 8), .int (nI no), .int (nI at_), .int (nI so), .int (nI sr), .int (nI va), .ref (z 9)])), (z 2, .inl (k.1 0, 23, .inl (ta_e t))), (z 4, .inl (k.1 0, 66, .inl (ta_e (ta_u (ta_u g3 1 ((g3 1) + 1)) 1 0))))] H := hP
                          have hD : va_D A [(z 0, .inr (8, [.ref (z 1), .int (nI ty), .ref (z 2), .ref (z 3), .ref (z 4), .ref (z 5), .int (nI kn), .ref (z 6), .ref (z 7), .ref (z 8), .int (nI no), .int (nI at_), .int (nI so), .int (nI sr), .int (nI va), .ref (z 9)])), (z 2, .inl (k.1 0, 23, .inl (ta_e t))), (z 4, .inl (k.1 0, 66, .inl (ta_e (ta_u (ta_u g3 1 ((g3 1) + 1)) 1 0))))] := hD
                          refine lv_aload_n hx hb dX8_goes_206 rfl (lv_at hl 3 rfl) ?_
                          refine ta_get C hP 0 inlX8 rfl rfl 4 (by decide) tw_128 rfl dX8_goes_207 ?_
                          refine ta_iconst C 0 dX8_goes_210 (by decide) ?_
                          refine lv_dup2_11 hx hb dX8_goes_211 rfl rfl ?_
                          refine ta_iald C hP 2 rfl (i := 0) (by omega) dX8_goes_212 ?_
                          refine ta_nv (y := (ta_u g3 1 ((g3 1) + 1)) 0) (ta_un (by decide)) ?_
                          refine ta_nv (y := g3 0) (ta_un (by decide)) ?_
                          refine ta_iconst C 1 dX8_goes_213 (by decide) ?_
                          refine ta_iadd C (a := g3 0) (b := 1) dX8_goes_214 ?_
                          refine ta_iast C hP hD hS 2 rfl (i := 0) (v := (g3 0) + 1) (by omega) dX8_goes_215 (fun H locs hP hD hS => ?_)
                          have hP : va_P D vwCl [(z 0, .inr (8, [.ref (z 1), .int (nI ty), .ref (z 2), .ref (z 3), .ref (z 4), .ref (z 5), .int (nI kn), .ref (z 6), .ref (z 7), .ref (z 8), .int (nI no), .int (nI at_), .int (nI so), .int (nI sr), .int (nI va), .ref (z 9)])), (z 2, .inl (k.1 0, 23, .inl (ta_e t))), (z 4, .inl (k.1 0, 66, .inl (ta_e (ta_u (ta_u (ta_u g3 1 ((g3 1) + 1)) 1 0) 0 ((g3 0) + 1)))))] H := hP
                          have hD : va_D A [(z 0, .inr (8, [.ref (z 1), .int (nI ty), .ref (z 2), .ref (z 3), .ref (z 4), .ref (z 5), .int (nI kn), .ref (z 6), .ref (z 7), .ref (z 8), .int (nI no), .int (nI at_), .int (nI so), .int (nI sr), .int (nI va), .ref (z 9)])), (z 2, .inl (k.1 0, 23, .inl (ta_e t))), (z 4, .inl (k.1 0, 66, .inl (ta_e (ta_u (ta_u (ta_u g3 1 ((g3 1) + 1)) 1 0) 0 ((g3 0) + 1)))))] := hD
                          refine lv_iload_n hx hb dX8_goes_216 rfl (lv_at hl 0 rfl) ?_
                          have e : ta_u (ta_u (ta_u g3 1 ((g3 1) + 1)) 1 0) 0 ((g3 0) + 1) = tg_go t g := by rw [ego]; unfold tg_wind; rw [if_pos (by omega), ta_uu]
                          have ekn : nI 0 = nI (tg_kn g) := by unfold tg_kn; rw [epre, ← ha]; first | rw [if_pos (by omega)] | rw [if_neg (by omega)]
                          rw [e] at hP hD
                          exact ret _ () dX8_goes_217 rfl ekn hP hD hS
                      · refine ta_iconst C 4294967295 dX8_goes_168 (by decide) ?_
                        refine lv_goto (tgt := 173) hx hb dX8_goes_169 (by decide) ?_
                        refine ta_iast C hP hD hS 2 rfl (i := 4) (v := 4294967295) (by omega) dX8_goes_173 (fun H locs hP hD hS => ?_)
                        have hP : va_P D vwCl [(z 0, .inr (8, [.ref (z 1), .int (nI ty), .ref (z 2), .ref (z 3), .ref (z 4), .ref (z 5), .int (nI kn), .ref (z 6), .ref (z 7), .ref (z 8), .int (nI no), .int (nI at_), .int (nI so), .int (nI sr), .int (nI va), .ref (z 9)])), (z 2, .inl (k.1 0, 23, .inl (ta_e t))), (z 4, .inl (k.1 0, 66, .inl (ta_e (ta_u (ta_u g2 5 ((g2 5) - 1)) 4 4294967295))))] H := hP
                        have hD : va_D A [(z 0, .inr (8, [.ref (z 1), .int (nI ty), .ref (z 2), .ref (z 3), .ref (z 4), .ref (z 5), .int (nI kn), .ref (z 6), .ref (z 7), .ref (z 8), .int (nI no), .int (nI at_), .int (nI so), .int (nI sr), .int (nI va), .ref (z 9)])), (z 2, .inl (k.1 0, 23, .inl (ta_e t))), (z 4, .inl (k.1 0, 66, .inl (ta_e (ta_u (ta_u g2 5 ((g2 5) - 1)) 4 4294967295))))] := hD
                        obtain ⟨g3, hg3⟩ : ∃ z, z = ta_u (ta_u g2 5 ((g2 5) - 1)) 4 4294967295 := ⟨_, rfl⟩
                        rw [← hg3] at hP hD
                        have edo : tg_do t g1 0 = g3 := by unfold tg_do; rw [hg3, eact, k5, if_pos (by omega)]
                        have ego : tg_go t g = tg_wind t g3 1 := by unfold tg_go; rw [epre, ← ha, if_neg (by omega), edo]
                        have k1 : g3 1 = g1 1 := by rw [← edo]; exact tg_do_k (by omega) e2 (by omega) (by omega) (by omega) (by omega) (by omega)
                        have hP : va_P D vwCl [(z 0, .inr (8, [.ref (z 1), .int (nI ty), .ref (z 2), .ref (z 3), .ref (z 4), .ref (z 5), .int (nI kn), .ref (z 6), .ref (z 7), .ref (z 8), .int (nI no), .int (nI at_), .int (nI so), .int (nI sr), .int (nI va), .ref (z 9)])), (z 2, .inl (k.1 0, 23, .inl (ta_e t))), (z 4, .inl (k.1 0, 66, .inl (ta_e g3)))] H := hP
                        have hD : va_D A [(z 0, .inr (8, [.ref (z 1), .int (nI ty), .ref (z 2), .ref (z 3), .ref (z 4), .ref (z 5), .int (nI kn), .ref (z 6), .ref (z 7), .ref (z 8), .int (nI no), .int (nI at_), .int (nI so), .int (nI sr), .int (nI va), .ref (z 9)])), (z 2, .inl (k.1 0, 23, .inl (ta_e t))), (z 4, .inl (k.1 0, 66, .inl (ta_e g3)))] := hD
                        refine lv_aload_n hx hb dX8_goes_174 rfl (lv_at hl 3 rfl) ?_
                        refine ta_get C hP 0 inlX8 rfl rfl 4 (by decide) tw_128 rfl dX8_goes_175 ?_
                        refine ta_iconst C 1 dX8_goes_178 (by decide) ?_
                        refine lv_dup2_11 hx hb dX8_goes_179 rfl rfl ?_
                        refine ta_iald C hP 2 rfl (i := 1) (by omega) dX8_goes_180 ?_
                        refine ta_iconst C 1 dX8_goes_181 (by decide) ?_
                        refine ta_iadd C (a := g3 1) (b := 1) dX8_goes_182 ?_
                        refine ta_iast C hP hD hS 2 rfl (i := 1) (v := (g3 1) + 1) (by omega) dX8_goes_183 (fun H locs hP hD hS => ?_)
                        have hP : va_P D vwCl [(z 0, .inr (8, [.ref (z 1), .int (nI ty), .ref (z 2), .ref (z 3), .ref (z 4), .ref (z 5), .int (nI kn), .ref (z 6), .ref (z 7), .ref (z 8), .int (nI no), .int (nI at_), .int (nI so), .int (nI sr), .int (nI va), .ref (z 9)])), (z 2, .inl (k.1 0, 23, .inl (ta_e t))), (z 4, .inl (k.1 0, 66, .inl (ta_e (ta_u g3 1 ((g3 1) + 1)))))] H := hP
                        have hD : va_D A [(z 0, .inr (8, [.ref (z 1), .int (nI ty), .ref (z 2), .ref (z 3), .ref (z 4), .ref (z 5), .int (nI kn), .ref (z 6), .ref (z 7), .ref (z 8), .int (nI no), .int (nI at_), .int (nI so), .int (nI sr), .int (nI va), .ref (z 9)])), (z 2, .inl (k.1 0, 23, .inl (ta_e t))), (z 4, .inl (k.1 0, 66, .inl (ta_e (ta_u g3 1 ((g3 1) + 1)))))] := hD
                        refine lv_aload_n hx hb dX8_goes_184 rfl (lv_at hl 3 rfl) ?_
                        refine ta_get C hP 0 inlX8 rfl rfl 4 (by decide) tw_128 rfl dX8_goes_185 ?_
                        refine ta_iconst C 1 dX8_goes_188 (by decide) ?_
                        refine ta_iald C hP 2 rfl (i := 1) (by omega) dX8_goes_189 ?_
                        refine ta_nv (y := (g3 1) + 1) ta_us ?_
                        refine lv_aload_n hx hb dX8_goes_190 rfl (lv_at hl 3 rfl) ?_
                        refine ta_get C hP 0 inlX8 rfl rfl 2 (by decide) tw_126 rfl dX8_goes_191 ?_
                        refine ta_iconst C 2 dX8_goes_194 (by decide) ?_
                        refine ta_iald C hP 1 rfl (i := 2) (by omega) dX8_goes_195 ?_
                        refine ta_cne C (a := (g3 1) + 1) (b := t 2) (tgt := 216) (by omega) (by omega) dX8_goes_196 (by decide) (fun c64 => ?_) (fun c64 => ?_)
                        · refine lv_iload_n hx hb dX8_goes_216 rfl (lv_at hl 0 rfl) ?_
                          have e : ta_u g3 1 ((g3 1) + 1) = tg_go t g := by rw [ego]; unfold tg_wind; rw [if_neg (by omega)]
                          have ekn : nI 0 = nI (tg_kn g) := by unfold tg_kn; rw [epre, ← ha]; first | rw [if_pos (by omega)] | rw [if_neg (by omega)]
                          rw [e] at hP hD
                          exact ret _ () dX8_goes_217 rfl ekn hP hD hS
                        · refine lv_aload_n hx hb dX8_goes_199 rfl (lv_at hl 3 rfl) ?_
                          refine ta_get C hP 0 inlX8 rfl rfl 4 (by decide) tw_128 rfl dX8_goes_200 ?_
                          refine ta_iconst C 1 dX8_goes_203 (by decide) ?_
                          refine ta_iconst C 0 dX8_goes_204 (by decide) ?_
                          refine ta_iast C hP hD hS 2 rfl (i := 1) (v := 0) (by omega) dX8_goes_205 (fun H locs hP hD hS => ?_)
                          have hP : va_P D vwCl [(z 0, .inr (8, [.ref (z 1), .int (nI ty), .ref (z 2), .ref (z 3), .ref (z 4), .ref (z 5), .int (nI kn), .ref (z 6), .ref (z 7), .ref (z 8), .int (nI no), .int (nI at_), .int (nI so), .int (nI sr), .int (nI va), .ref (z 9)])), (z 2, .inl (k.1 0, 23, .inl (ta_e t))), (z 4, .inl (k.1 0, 66, .inl (ta_e (ta_u (ta_u g3 1 ((g3 1) + 1)) 1 0))))] H := hP
                          have hD : va_D A [(z 0, .inr (8, [.ref (z 1), .int (nI ty), .ref (z 2), .ref (z 3), .ref (z 4), .ref (z 5), .int (nI kn), .ref (z 6), .ref (z 7), .ref (z 8), .int (nI no), .int (nI at_), .int (nI so), .int (nI sr), .int (nI va), .ref (z 9)])), (z 2, .inl (k.1 0, 23, .inl (ta_e t))), (z 4, .inl (k.1 0, 66, .inl (ta_e (ta_u (ta_u g3 1 ((g3 1) + 1)) 1 0))))] := hD
                          refine lv_aload_n hx hb dX8_goes_206 rfl (lv_at hl 3 rfl) ?_
                          refine ta_get C hP 0 inlX8 rfl rfl 4 (by decide) tw_128 rfl dX8_goes_207 ?_
                          refine ta_iconst C 0 dX8_goes_210 (by decide) ?_
                          refine lv_dup2_11 hx hb dX8_goes_211 rfl rfl ?_
                          refine ta_iald C hP 2 rfl (i := 0) (by omega) dX8_goes_212 ?_
                          refine ta_nv (y := (ta_u g3 1 ((g3 1) + 1)) 0) (ta_un (by decide)) ?_
                          refine ta_nv (y := g3 0) (ta_un (by decide)) ?_
                          refine ta_iconst C 1 dX8_goes_213 (by decide) ?_
                          refine ta_iadd C (a := g3 0) (b := 1) dX8_goes_214 ?_
                          refine ta_iast C hP hD hS 2 rfl (i := 0) (v := (g3 0) + 1) (by omega) dX8_goes_215 (fun H locs hP hD hS => ?_)
                          have hP : va_P D vwCl [(z 0, .inr (8, [.ref (z 1), .int (nI ty), .ref (z 2), .ref (z 3), .ref (z 4), .ref (z 5), .int (nI kn), .ref (z 6), .ref (z 7), .ref (z 8), .int (nI no), .int (nI at_), .int (nI so), .int (nI sr), .int (nI va), .ref (z 9)])), (z 2, .inl (k.1 0, 23, .inl (ta_e t))), (z 4, .inl (k.1 0, 66, .inl (ta_e (ta_u (ta_u (ta_u g3 1 ((g3 1) + 1)) 1 0) 0 ((g3 0) + 1)))))] H := hP
                          have hD : va_D A [(z 0, .inr (8, [.ref (z 1), .int (nI ty), .ref (z 2), .ref (z 3), .ref (z 4), .ref (z 5), .int (nI kn), .ref (z 6), .ref (z 7), .ref (z 8), .int (nI no), .int (nI at_), .int (nI so), .int (nI sr), .int (nI va), .ref (z 9)])), (z 2, .inl (k.1 0, 23, .inl (ta_e t))), (z 4, .inl (k.1 0, 66, .inl (ta_e (ta_u (ta_u (ta_u g3 1 ((g3 1) + 1)) 1 0) 0 ((g3 0) + 1)))))] := hD
                          refine lv_iload_n hx hb dX8_goes_216 rfl (lv_at hl 0 rfl) ?_
                          have e : ta_u (ta_u (ta_u g3 1 ((g3 1) + 1)) 1 0) 0 ((g3 0) + 1) = tg_go t g := by rw [ego]; unfold tg_wind; rw [if_pos (by omega), ta_uu]
                          have ekn : nI 0 = nI (tg_kn g) := by unfold tg_kn; rw [epre, ← ha]; first | rw [if_pos (by omega)] | rw [if_neg (by omega)]
                          rw [e] at hP hD
                          exact ret _ () dX8_goes_217 rfl ekn hP hD hS
                  · exact absurd c60 (by decide)
                · exact absurd c59 (by decide)
              · exact absurd c58 (by decide)
            · exact absurd c57 (by decide)
    · refine lv_aload_n hx hb dX8_goes_21 rfl (lv_at hl 2 rfl) ?_
      refine ta_get C hP 0 inlX8 rfl rfl 4 (by decide) tw_128 rfl dX8_goes_22 ?_
      refine ta_bipush C 6 dX8_goes_25 (by decide) ?_
      refine lv_iload_n hx hb dX8_goes_27 rfl (lv_at hl 1 rfl) ?_
      refine ta_iadd C (a := 6) (b := 0) dX8_goes_28 ?_
      refine ta_iald C hP 2 rfl (i := 6) (by omega) dX8_goes_29 ?_
      refine ta_ile C (a := g 6) (tgt := 38) (by omega) dX8_goes_30 (by decide) (fun c65 => ?_) (fun c65 => ?_)
      · obtain ⟨g1, hg1⟩ : ∃ z, z = g := ⟨_, rfl⟩
        have epre : tg_pre g = g1 := by rw [hg1]; unfold tg_pre; rw [← ha]; exact if_neg (fun h => by have h7 : 0 < g 6 := h.2; omega)
        have hok1 : tg_ok t g1 := by rw [hg1]; exact hok
        have g10 : g1 0 = g 0 := by rw [hg1]
        rw [← hg1] at hP hD
        have hP : va_P D vwCl [(z 0, .inr (8, [.ref (z 1), .int (nI ty), .ref (z 2), .ref (z 3), .ref (z 4), .ref (z 5), .int (nI kn), .ref (z 6), .ref (z 7), .ref (z 8), .int (nI no), .int (nI at_), .int (nI so), .int (nI sr), .int (nI va), .ref (z 9)])), (z 2, .inl (k.1 0, 23, .inl (ta_e t))), (z 4, .inl (k.1 0, 66, .inl (ta_e g1)))] H := hP
        have hD : va_D A [(z 0, .inr (8, [.ref (z 1), .int (nI ty), .ref (z 2), .ref (z 3), .ref (z 4), .ref (z 5), .int (nI kn), .ref (z 6), .ref (z 7), .ref (z 8), .int (nI no), .int (nI at_), .int (nI so), .int (nI sr), .int (nI va), .ref (z 9)])), (z 2, .inl (k.1 0, 23, .inl (ta_e t))), (z 4, .inl (k.1 0, 66, .inl (ta_e g1)))] := hD
        obtain ⟨-, e1, e2, e3, e4, -⟩ := id hok1
        refine lv_aload_n hx hb dX8_goes_38 rfl (lv_at hl 2 rfl) ?_
        refine ta_get C hP 0 inlX8 rfl rfl 4 (by decide) tw_128 rfl dX8_goes_39 ?_
        refine ta_iconst C 4 dX8_goes_42 (by decide) ?_
        refine ta_iald C hP 2 rfl (i := 4) (by omega) dX8_goes_43 ?_
        rcases (show g1 4 = 4294967295 ∨ g1 4 = 0 ∨ g1 4 = 1 ∨ g1 4 = 2 ∨ g1 4 = 3 ∨ g1 4 = 4 by omega) with h4 | h4 | h4 | h4 | h4 | h4
        · refine ta_nv (y := 4294967295) h4 ?_
          refine lv_istore_n (lv' := [(3, .int (nI 4294967295)), (2, .int (nI 4294967295)), (1, .int (nI 0)), (0, .ref (z 0))]) hx hb dX8_goes_44 rfl hl (by decide) rfl (fun ls hl => ?_)
          refine lv_iload_n hx hb dX8_goes_45 rfl (lv_at hl 0 rfl) ?_
          refine ta_iconst C 4294967295 dX8_goes_46 (by decide) ?_
          refine lv_icmp_eq (tgt := 174) hx hb dX8_goes_47 (by decide) (fun c66 => ?_) (fun c66 => ?_)
          · obtain ⟨g3, hg3⟩ : ∃ z, z = g1 := ⟨_, rfl⟩
            rw [← hg3] at hP hD
            have ego : tg_go t g = tg_wind t g3 1 := by unfold tg_go; rw [epre, if_pos h4, hg3]
            have k1 : g3 1 = g1 1 := by rw [hg3]
            have hP : va_P D vwCl [(z 0, .inr (8, [.ref (z 1), .int (nI ty), .ref (z 2), .ref (z 3), .ref (z 4), .ref (z 5), .int (nI kn), .ref (z 6), .ref (z 7), .ref (z 8), .int (nI no), .int (nI at_), .int (nI so), .int (nI sr), .int (nI va), .ref (z 9)])), (z 2, .inl (k.1 0, 23, .inl (ta_e t))), (z 4, .inl (k.1 0, 66, .inl (ta_e g3)))] H := hP
            have hD : va_D A [(z 0, .inr (8, [.ref (z 1), .int (nI ty), .ref (z 2), .ref (z 3), .ref (z 4), .ref (z 5), .int (nI kn), .ref (z 6), .ref (z 7), .ref (z 8), .int (nI no), .int (nI at_), .int (nI so), .int (nI sr), .int (nI va), .ref (z 9)])), (z 2, .inl (k.1 0, 23, .inl (ta_e t))), (z 4, .inl (k.1 0, 66, .inl (ta_e g3)))] := hD
            refine lv_aload_n hx hb dX8_goes_174 rfl (lv_at hl 3 rfl) ?_
            refine ta_get C hP 0 inlX8 rfl rfl 4 (by decide) tw_128 rfl dX8_goes_175 ?_
            refine ta_iconst C 1 dX8_goes_178 (by decide) ?_
            refine lv_dup2_11 hx hb dX8_goes_179 rfl rfl ?_
            refine ta_iald C hP 2 rfl (i := 1) (by omega) dX8_goes_180 ?_
            refine ta_iconst C 1 dX8_goes_181 (by decide) ?_
            refine ta_iadd C (a := g3 1) (b := 1) dX8_goes_182 ?_
            refine ta_iast C hP hD hS 2 rfl (i := 1) (v := (g3 1) + 1) (by omega) dX8_goes_183 (fun H locs hP hD hS => ?_)
            have hP : va_P D vwCl [(z 0, .inr (8, [.ref (z 1), .int (nI ty), .ref (z 2), .ref (z 3), .ref (z 4), .ref (z 5), .int (nI kn), .ref (z 6), .ref (z 7), .ref (z 8), .int (nI no), .int (nI at_), .int (nI so), .int (nI sr), .int (nI va), .ref (z 9)])), (z 2, .inl (k.1 0, 23, .inl (ta_e t))), (z 4, .inl (k.1 0, 66, .inl (ta_e (ta_u g3 1 ((g3 1) + 1)))))] H := hP
            have hD : va_D A [(z 0, .inr (8, [.ref (z 1), .int (nI ty), .ref (z 2), .ref (z 3), .ref (z 4), .ref (z 5), .int (nI kn), .ref (z 6), .ref (z 7), .ref (z 8), .int (nI no), .int (nI at_), .int (nI so), .int (nI sr), .int (nI va), .ref (z 9)])), (z 2, .inl (k.1 0, 23, .inl (ta_e t))), (z 4, .inl (k.1 0, 66, .inl (ta_e (ta_u g3 1 ((g3 1) + 1)))))] := hD
            refine lv_aload_n hx hb dX8_goes_184 rfl (lv_at hl 3 rfl) ?_
            refine ta_get C hP 0 inlX8 rfl rfl 4 (by decide) tw_128 rfl dX8_goes_185 ?_
            refine ta_iconst C 1 dX8_goes_188 (by decide) ?_
            refine ta_iald C hP 2 rfl (i := 1) (by omega) dX8_goes_189 ?_
            refine ta_nv (y := (g3 1) + 1) ta_us ?_
            refine lv_aload_n hx hb dX8_goes_190 rfl (lv_at hl 3 rfl) ?_
            refine ta_get C hP 0 inlX8 rfl rfl 2 (by decide) tw_126 rfl dX8_goes_191 ?_
            refine ta_iconst C 2 dX8_goes_194 (by decide) ?_
            refine ta_iald C hP 1 rfl (i := 2) (by omega) dX8_goes_195 ?_
            refine ta_cne C (a := (g3 1) + 1) (b := t 2) (tgt := 216) (by omega) (by omega) dX8_goes_196 (by decide) (fun c67 => ?_) (fun c67 => ?_)
            · refine lv_iload_n hx hb dX8_goes_216 rfl (lv_at hl 1 rfl) ?_
              have e : ta_u g3 1 ((g3 1) + 1) = tg_go t g := by rw [ego]; unfold tg_wind; rw [if_neg (by omega)]
              have ekn : nI 4294967295 = nI (tg_kn g) := by unfold tg_kn; rw [epre, ← ha]; first | rw [if_pos (by omega)] | rw [if_neg (by omega)]
              rw [e] at hP hD
              exact ret _ () dX8_goes_217 rfl ekn hP hD hS
            · refine lv_aload_n hx hb dX8_goes_199 rfl (lv_at hl 3 rfl) ?_
              refine ta_get C hP 0 inlX8 rfl rfl 4 (by decide) tw_128 rfl dX8_goes_200 ?_
              refine ta_iconst C 1 dX8_goes_203 (by decide) ?_
              refine ta_iconst C 0 dX8_goes_204 (by decide) ?_
              refine ta_iast C hP hD hS 2 rfl (i := 1) (v := 0) (by omega) dX8_goes_205 (fun H locs hP hD hS => ?_)
              have hP : va_P D vwCl [(z 0, .inr (8, [.ref (z 1), .int (nI ty), .ref (z 2), .ref (z 3), .ref (z 4), .ref (z 5), .int (nI kn), .ref (z 6), .ref (z 7), .ref (z 8), .int (nI no), .int (nI at_), .int (nI so), .int (nI sr), .int (nI va), .ref (z 9)])), (z 2, .inl (k.1 0, 23, .inl (ta_e t))), (z 4, .inl (k.1 0, 66, .inl (ta_e (ta_u (ta_u g3 1 ((g3 1) + 1)) 1 0))))] H := hP
              have hD : va_D A [(z 0, .inr (8, [.ref (z 1), .int (nI ty), .ref (z 2), .ref (z 3), .ref (z 4), .ref (z 5), .int (nI kn), .ref (z 6), .ref (z 7), .ref (z 8), .int (nI no), .int (nI at_), .int (nI so), .int (nI sr), .int (nI va), .ref (z 9)])), (z 2, .inl (k.1 0, 23, .inl (ta_e t))), (z 4, .inl (k.1 0, 66, .inl (ta_e (ta_u (ta_u g3 1 ((g3 1) + 1)) 1 0))))] := hD
              refine lv_aload_n hx hb dX8_goes_206 rfl (lv_at hl 3 rfl) ?_
              refine ta_get C hP 0 inlX8 rfl rfl 4 (by decide) tw_128 rfl dX8_goes_207 ?_
              refine ta_iconst C 0 dX8_goes_210 (by decide) ?_
              refine lv_dup2_11 hx hb dX8_goes_211 rfl rfl ?_
              refine ta_iald C hP 2 rfl (i := 0) (by omega) dX8_goes_212 ?_
              refine ta_nv (y := (ta_u g3 1 ((g3 1) + 1)) 0) (ta_un (by decide)) ?_
              refine ta_nv (y := g3 0) (ta_un (by decide)) ?_
              refine ta_iconst C 1 dX8_goes_213 (by decide) ?_
              refine ta_iadd C (a := g3 0) (b := 1) dX8_goes_214 ?_
              refine ta_iast C hP hD hS 2 rfl (i := 0) (v := (g3 0) + 1) (by omega) dX8_goes_215 (fun H locs hP hD hS => ?_)
              have hP : va_P D vwCl [(z 0, .inr (8, [.ref (z 1), .int (nI ty), .ref (z 2), .ref (z 3), .ref (z 4), .ref (z 5), .int (nI kn), .ref (z 6), .ref (z 7), .ref (z 8), .int (nI no), .int (nI at_), .int (nI so), .int (nI sr), .int (nI va), .ref (z 9)])), (z 2, .inl (k.1 0, 23, .inl (ta_e t))), (z 4, .inl (k.1 0, 66, .inl (ta_e (ta_u (ta_u (ta_u g3 1 ((g3 1) + 1)) 1 0) 0 ((g3 0) + 1)))))] H := hP
              have hD : va_D A [(z 0, .inr (8, [.ref (z 1), .int (nI ty), .ref (z 2), .ref (z 3), .ref (z 4), .ref (z 5), .int (nI kn), .ref (z 6), .ref (z 7), .ref (z 8), .int (nI no), .int (nI at_), .int (nI so), .int (nI sr), .int (nI va), .ref (z 9)])), (z 2, .inl (k.1 0, 23, .inl (ta_e t))), (z 4, .inl (k.1 0, 66, .inl (ta_e (ta_u (ta_u (ta_u g3 1 ((g3 1) + 1)) 1 0) 0 ((g3 0) + 1)))))] := hD
              refine lv_iload_n hx hb dX8_goes_216 rfl (lv_at hl 1 rfl) ?_
              have e : ta_u (ta_u (ta_u g3 1 ((g3 1) + 1)) 1 0) 0 ((g3 0) + 1) = tg_go t g := by rw [ego]; unfold tg_wind; rw [if_pos (by omega), ta_uu]
              have ekn : nI 4294967295 = nI (tg_kn g) := by unfold tg_kn; rw [epre, ← ha]; first | rw [if_pos (by omega)] | rw [if_neg (by omega)]
              rw [e] at hP hD
              exact ret _ () dX8_goes_217 rfl ekn hP hD hS
          · exact absurd c66 (by decide)
        · refine ta_nv (y := 0) h4 ?_
          refine lv_istore_n (lv' := [(3, .int (nI 0)), (2, .int (nI 4294967295)), (1, .int (nI 0)), (0, .ref (z 0))]) hx hb dX8_goes_44 rfl hl (by decide) rfl (fun ls hl => ?_)
          refine lv_iload_n hx hb dX8_goes_45 rfl (lv_at hl 0 rfl) ?_
          refine ta_iconst C 4294967295 dX8_goes_46 (by decide) ?_
          refine lv_icmp_eq (tgt := 174) hx hb dX8_goes_47 (by decide) (fun c68 => ?_) (fun c68 => ?_)
          · exact absurd c68 (by decide)
          · refine lv_iload_n hx hb dX8_goes_50 rfl (lv_at hl 0 rfl) ?_
            refine lv_if_eq (tgt := 59) hx hb dX8_goes_51 (by decide) (fun c69 => ?_) (fun c69 => ?_)
            · refine lv_aload_n hx hb dX8_goes_59 rfl (lv_at hl 3 rfl) ?_
              refine lv_aload_n hx hb dX8_goes_60 rfl (lv_at hl 3 rfl) ?_
              refine ta_get C hP 0 inlX8 rfl rfl 4 (by decide) tw_128 rfl dX8_goes_61 ?_
              refine ta_iconst C 3 dX8_goes_64 (by decide) ?_
              refine ta_iald C hP 2 rfl (i := 3) (by omega) dX8_goes_65 ?_
              refine ta_callVv (As := [.int (nI (g1 3))]) (rest0 := []) (Wr := []) C hP hD hS (c_X8_steps l D k z ty kn no at_ so sr va t g1 (g1 3) hok1 e3) 0 rfl rfl rfl [0, 1, 2] [] rfl rfl (by decide) (by decide) (by decide) tw_489 tw_486 tw_5 tw_487 tw_488 ⟨by decide, by decide, rfl⟩ ⟨Nat.le_of_ble_eq_true rfl, Nat.le_of_ble_eq_true rfl⟩ ⟨Nat.zero_le _, Nat.zero_le _⟩ hl.1 rfl (Nat.le_of_ble_eq_true rfl) dX8_goes_66 (fun u71 H locs h72 hP hD hS => ?_)
              have hP : va_P D vwCl [(z 0, .inr (8, [.ref (z 1), .int (nI ty), .ref (z 2), .ref (z 3), .ref (z 4), .ref (z 5), .int (nI kn), .ref (z 6), .ref (z 7), .ref (z 8), .int (nI no), .int (nI at_), .int (nI so), .int (nI sr), .int (nI va), .ref (z 9)])), (z 2, .inl (k.1 0, 23, .inl (ta_e t))), (z 4, .inl (k.1 0, 66, .inl (ta_e (tg_step t g1 (g1 3)))))] H := hP
              have hD : va_D A [(z 0, .inr (8, [.ref (z 1), .int (nI ty), .ref (z 2), .ref (z 3), .ref (z 4), .ref (z 5), .int (nI kn), .ref (z 6), .ref (z 7), .ref (z 8), .int (nI no), .int (nI at_), .int (nI so), .int (nI sr), .int (nI va), .ref (z 9)])), (z 2, .inl (k.1 0, 23, .inl (ta_e t))), (z 4, .inl (k.1 0, 66, .inl (ta_e (tg_step t g1 (g1 3)))))] := hD
              refine lv_iload_n hx hb dX8_goes_69 rfl (lv_at hl 0 rfl) ?_
              refine ta_iconst C 2 dX8_goes_70 (by decide) ?_
              refine lv_icmp_ne (tgt := 84) hx hb dX8_goes_71 (by decide) (fun c73 => ?_) (fun c73 => ?_)
              · refine lv_iload_n hx hb dX8_goes_84 rfl (lv_at hl 0 rfl) ?_
                refine ta_iconst C 1 dX8_goes_85 (by decide) ?_
                refine lv_icmp_ne (tgt := 103) hx hb dX8_goes_86 (by decide) (fun c74 => ?_) (fun c74 => ?_)
                · refine lv_iload_n hx hb dX8_goes_103 rfl (lv_at hl 0 rfl) ?_
                  refine ta_iconst C 3 dX8_goes_104 (by decide) ?_
                  refine lv_icmp_ne (tgt := 124) hx hb dX8_goes_105 (by decide) (fun c75 => ?_) (fun c75 => ?_)
                  · refine lv_iload_n hx hb dX8_goes_124 rfl (lv_at hl 0 rfl) ?_
                    refine ta_iconst C 4 dX8_goes_125 (by decide) ?_
                    refine lv_icmp_ne (tgt := 144) hx hb dX8_goes_126 (by decide) (fun c76 => ?_) (fun c76 => ?_)
                    · obtain ⟨g2, hg2⟩ : ∃ z, z = tg_step t g1 (g1 3) := ⟨_, rfl⟩
                      rw [← hg2] at hP hD
                      have eact : tg_act t g1 0 = g2 := by rw [hg2]; unfold tg_act; rw [if_pos h4]
                      have k5 : g2 5 = g1 5 := by rw [← eact]; exact tg_act_k (by omega) e2 (by omega) (by omega) (by omega)
                      have hP : va_P D vwCl [(z 0, .inr (8, [.ref (z 1), .int (nI ty), .ref (z 2), .ref (z 3), .ref (z 4), .ref (z 5), .int (nI kn), .ref (z 6), .ref (z 7), .ref (z 8), .int (nI no), .int (nI at_), .int (nI so), .int (nI sr), .int (nI va), .ref (z 9)])), (z 2, .inl (k.1 0, 23, .inl (ta_e t))), (z 4, .inl (k.1 0, 66, .inl (ta_e g2)))] H := hP
                      have hD : va_D A [(z 0, .inr (8, [.ref (z 1), .int (nI ty), .ref (z 2), .ref (z 3), .ref (z 4), .ref (z 5), .int (nI kn), .ref (z 6), .ref (z 7), .ref (z 8), .int (nI no), .int (nI at_), .int (nI so), .int (nI sr), .int (nI va), .ref (z 9)])), (z 2, .inl (k.1 0, 23, .inl (ta_e t))), (z 4, .inl (k.1 0, 66, .inl (ta_e g2)))] := hD
                      refine lv_aload_n hx hb dX8_goes_144 rfl (lv_at hl 3 rfl) ?_
                      refine ta_get C hP 0 inlX8 rfl rfl 4 (by decide) tw_128 rfl dX8_goes_145 ?_
                      refine ta_iconst C 5 dX8_goes_148 (by decide) ?_
                      refine lv_dup2_11 hx hb dX8_goes_149 rfl rfl ?_
                      refine ta_iald C hP 2 rfl (i := 5) (by omega) dX8_goes_150 ?_
                      refine ta_iconst C 1 dX8_goes_151 (by decide) ?_
                      refine ta_isub C (a := g2 5) (b := 1) (by omega) dX8_goes_152 ?_
                      refine ta_iast C hP hD hS 2 rfl (i := 5) (v := (g2 5) - 1) (by omega) dX8_goes_153 (fun H locs hP hD hS => ?_)
                      have hP : va_P D vwCl [(z 0, .inr (8, [.ref (z 1), .int (nI ty), .ref (z 2), .ref (z 3), .ref (z 4), .ref (z 5), .int (nI kn), .ref (z 6), .ref (z 7), .ref (z 8), .int (nI no), .int (nI at_), .int (nI so), .int (nI sr), .int (nI va), .ref (z 9)])), (z 2, .inl (k.1 0, 23, .inl (ta_e t))), (z 4, .inl (k.1 0, 66, .inl (ta_e (ta_u g2 5 ((g2 5) - 1)))))] H := hP
                      have hD : va_D A [(z 0, .inr (8, [.ref (z 1), .int (nI ty), .ref (z 2), .ref (z 3), .ref (z 4), .ref (z 5), .int (nI kn), .ref (z 6), .ref (z 7), .ref (z 8), .int (nI no), .int (nI at_), .int (nI so), .int (nI sr), .int (nI va), .ref (z 9)])), (z 2, .inl (k.1 0, 23, .inl (ta_e t))), (z 4, .inl (k.1 0, 66, .inl (ta_e (ta_u g2 5 ((g2 5) - 1)))))] := hD
                      refine lv_aload_n hx hb dX8_goes_154 rfl (lv_at hl 3 rfl) ?_
                      refine ta_get C hP 0 inlX8 rfl rfl 4 (by decide) tw_128 rfl dX8_goes_155 ?_
                      refine ta_iconst C 4 dX8_goes_158 (by decide) ?_
                      refine lv_aload_n hx hb dX8_goes_159 rfl (lv_at hl 3 rfl) ?_
                      refine ta_get C hP 0 inlX8 rfl rfl 4 (by decide) tw_128 rfl dX8_goes_160 ?_
                      refine ta_iconst C 5 dX8_goes_163 (by decide) ?_
                      refine ta_iald C hP 2 rfl (i := 5) (by omega) dX8_goes_164 ?_
                      refine ta_nv (y := (g2 5) - 1) ta_us ?_
                      refine ta_ine C (a := (g2 5) - 1) (tgt := 172) (by omega) dX8_goes_165 (by decide) (fun c77 => ?_) (fun c77 => ?_)
                      · refine lv_iload_n hx hb dX8_goes_172 rfl (lv_at hl 0 rfl) ?_
                        refine ta_iast C hP hD hS 2 rfl (i := 4) (v := 0) (by omega) dX8_goes_173 (fun H locs hP hD hS => ?_)
                        have hP : va_P D vwCl [(z 0, .inr (8, [.ref (z 1), .int (nI ty), .ref (z 2), .ref (z 3), .ref (z 4), .ref (z 5), .int (nI kn), .ref (z 6), .ref (z 7), .ref (z 8), .int (nI no), .int (nI at_), .int (nI so), .int (nI sr), .int (nI va), .ref (z 9)])), (z 2, .inl (k.1 0, 23, .inl (ta_e t))), (z 4, .inl (k.1 0, 66, .inl (ta_e (ta_u (ta_u g2 5 ((g2 5) - 1)) 4 0))))] H := hP
                        have hD : va_D A [(z 0, .inr (8, [.ref (z 1), .int (nI ty), .ref (z 2), .ref (z 3), .ref (z 4), .ref (z 5), .int (nI kn), .ref (z 6), .ref (z 7), .ref (z 8), .int (nI no), .int (nI at_), .int (nI so), .int (nI sr), .int (nI va), .ref (z 9)])), (z 2, .inl (k.1 0, 23, .inl (ta_e t))), (z 4, .inl (k.1 0, 66, .inl (ta_e (ta_u (ta_u g2 5 ((g2 5) - 1)) 4 0))))] := hD
                        obtain ⟨g3, hg3⟩ : ∃ z, z = ta_u (ta_u g2 5 ((g2 5) - 1)) 4 0 := ⟨_, rfl⟩
                        rw [← hg3] at hP hD
                        have edo : tg_do t g1 0 = g3 := by unfold tg_do; rw [hg3, eact, k5, if_neg (by omega), h4]
                        have ego : tg_go t g = tg_wind t g3 1 := by unfold tg_go; rw [epre, ← ha, if_neg (by omega), edo]
                        have k1 : g3 1 = g1 1 := by rw [← edo]; exact tg_do_k (by omega) e2 (by omega) (by omega) (by omega) (by omega) (by omega)
                        have hP : va_P D vwCl [(z 0, .inr (8, [.ref (z 1), .int (nI ty), .ref (z 2), .ref (z 3), .ref (z 4), .ref (z 5), .int (nI kn), .ref (z 6), .ref (z 7), .ref (z 8), .int (nI no), .int (nI at_), .int (nI so), .int (nI sr), .int (nI va), .ref (z 9)])), (z 2, .inl (k.1 0, 23, .inl (ta_e t))), (z 4, .inl (k.1 0, 66, .inl (ta_e g3)))] H := hP
                        have hD : va_D A [(z 0, .inr (8, [.ref (z 1), .int (nI ty), .ref (z 2), .ref (z 3), .ref (z 4), .ref (z 5), .int (nI kn), .ref (z 6), .ref (z 7), .ref (z 8), .int (nI no), .int (nI at_), .int (nI so), .int (nI sr), .int (nI va), .ref (z 9)])), (z 2, .inl (k.1 0, 23, .inl (ta_e t))), (z 4, .inl (k.1 0, 66, .inl (ta_e g3)))] := hD
                        refine lv_aload_n hx hb dX8_goes_174 rfl (lv_at hl 3 rfl) ?_
                        refine ta_get C hP 0 inlX8 rfl rfl 4 (by decide) tw_128 rfl dX8_goes_175 ?_
                        refine ta_iconst C 1 dX8_goes_178 (by decide) ?_
                        refine lv_dup2_11 hx hb dX8_goes_179 rfl rfl ?_
                        refine ta_iald C hP 2 rfl (i := 1) (by omega) dX8_goes_180 ?_
                        refine ta_iconst C 1 dX8_goes_181 (by decide) ?_
                        refine ta_iadd C (a := g3 1) (b := 1) dX8_goes_182 ?_
                        refine ta_iast C hP hD hS 2 rfl (i := 1) (v := (g3 1) + 1) (by omega) dX8_goes_183 (fun H locs hP hD hS => ?_)
                        have hP : va_P D vwCl [(z 0, .inr (8, [.ref (z 1), .int (nI ty), .ref (z 2), .ref (z 3), .ref (z 4), .ref (z 5), .int (nI kn), .ref (z 6), .ref (z 7), .ref (z 8), .int (nI no), .int (nI at_), .int (nI so), .int (nI sr), .int (nI va), .ref (z 9)])), (z 2, .inl (k.1 0, 23, .inl (ta_e t))), (z 4, .inl (k.1 0, 66, .inl (ta_e (ta_u g3 1 ((g3 1) + 1)))))] H := hP
                        have hD : va_D A [(z 0, .inr (8, [.ref (z 1), .int (nI ty), .ref (z 2), .ref (z 3), .ref (z 4), .ref (z 5), .int (nI kn), .ref (z 6), .ref (z 7), .ref (z 8), .int (nI no), .int (nI at_), .int (nI so), .int (nI sr), .int (nI va), .ref (z 9)])), (z 2, .inl (k.1 0, 23, .inl (ta_e t))), (z 4, .inl (k.1 0, 66, .inl (ta_e (ta_u g3 1 ((g3 1) + 1)))))] := hD
                        refine lv_aload_n hx hb dX8_goes_184 rfl (lv_at hl 3 rfl) ?_
                        refine ta_get C hP 0 inlX8 rfl rfl 4 (by decide) tw_128 rfl dX8_goes_185 ?_
                        refine ta_iconst C 1 dX8_goes_188 (by decide) ?_
                        refine ta_iald C hP 2 rfl (i := 1) (by omega) dX8_goes_189 ?_
                        refine ta_nv (y := (g3 1) + 1) ta_us ?_
                        refine lv_aload_n hx hb dX8_goes_190 rfl (lv_at hl 3 rfl) ?_
                        refine ta_get C hP 0 inlX8 rfl rfl 2 (by decide) tw_126 rfl dX8_goes_191 ?_
                        refine ta_iconst C 2 dX8_goes_194 (by decide) ?_
                        refine ta_iald C hP 1 rfl (i := 2) (by omega) dX8_goes_195 ?_
                        refine ta_cne C (a := (g3 1) + 1) (b := t 2) (tgt := 216) (by omega) (by omega) dX8_goes_196 (by decide) (fun c78 => ?_) (fun c78 => ?_)
                        · refine lv_iload_n hx hb dX8_goes_216 rfl (lv_at hl 1 rfl) ?_
                          have e : ta_u g3 1 ((g3 1) + 1) = tg_go t g := by rw [ego]; unfold tg_wind; rw [if_neg (by omega)]
                          have ekn : nI 4294967295 = nI (tg_kn g) := by unfold tg_kn; rw [epre, ← ha]; first | rw [if_pos (by omega)] | rw [if_neg (by omega)]
                          rw [e] at hP hD
                          exact ret _ () dX8_goes_217 rfl ekn hP hD hS
                        · refine lv_aload_n hx hb dX8_goes_199 rfl (lv_at hl 3 rfl) ?_
                          refine ta_get C hP 0 inlX8 rfl rfl 4 (by decide) tw_128 rfl dX8_goes_200 ?_
                          refine ta_iconst C 1 dX8_goes_203 (by decide) ?_
                          refine ta_iconst C 0 dX8_goes_204 (by decide) ?_
                          refine ta_iast C hP hD hS 2 rfl (i := 1) (v := 0) (by omega) dX8_goes_205 (fun H locs hP hD hS => ?_)
                          have hP : va_P D vwCl [(z 0, .inr (8, [.ref (z 1), .int (nI ty), .ref (z 2), .ref (z 3), .ref (z 4), .ref (z 5), .int (nI kn), .ref (z 6), .ref (z 7), .ref (z 8), .int (nI no), .int (nI at_), .int (nI so), .int (nI sr), .int (nI va), .ref (z 9)])), (z 2, .inl (k.1 0, 23, .inl (ta_e t))), (z 4, .inl (k.1 0, 66, .inl (ta_e (ta_u (ta_u g3 1 ((g3 1) + 1)) 1 0))))] H := hP
                          have hD : va_D A [(z 0, .inr (8, [.ref (z 1), .int (nI ty), .ref (z 2), .ref (z 3), .ref (z 4), .ref (z 5), .int (nI kn), .ref (z 6), .ref (z 7), .ref (z 8), .int (nI no), .int (nI at_), .int (nI so), .int (nI sr), .int (nI va), .ref (z 9)])), (z 2, .inl (k.1 0, 23, .inl (ta_e t))), (z 4, .inl (k.1 0, 66, .inl (ta_e (ta_u (ta_u g3 1 ((g3 1) + 1)) 1 0))))] := hD
                          refine lv_aload_n hx hb dX8_goes_206 rfl (lv_at hl 3 rfl) ?_
                          refine ta_get C hP 0 inlX8 rfl rfl 4 (by decide) tw_128 rfl dX8_goes_207 ?_
                          refine ta_iconst C 0 dX8_goes_210 (by decide) ?_
                          refine lv_dup2_11 hx hb dX8_goes_211 rfl rfl ?_
                          refine ta_iald C hP 2 rfl (i := 0) (by omega) dX8_goes_212 ?_
                          refine ta_nv (y := (ta_u g3 1 ((g3 1) + 1)) 0) (ta_un (by decide)) ?_
                          refine ta_nv (y := g3 0) (ta_un (by decide)) ?_
                          refine ta_iconst C 1 dX8_goes_213 (by decide) ?_
                          refine ta_iadd C (a := g3 0) (b := 1) dX8_goes_214 ?_
                          refine ta_iast C hP hD hS 2 rfl (i := 0) (v := (g3 0) + 1) (by omega) dX8_goes_215 (fun H locs hP hD hS => ?_)
                          have hP : va_P D vwCl [(z 0, .inr (8, [.ref (z 1), .int (nI ty), .ref (z 2), .ref (z 3), .ref (z 4), .ref (z 5), .int (nI kn), .ref (z 6), .ref (z 7), .ref (z 8), .int (nI no), .int (nI at_), .int (nI so), .int (nI sr), .int (nI va), .ref (z 9)])), (z 2, .inl (k.1 0, 23, .inl (ta_e t))), (z 4, .inl (k.1 0, 66, .inl (ta_e (ta_u (ta_u (ta_u g3 1 ((g3 1) + 1)) 1 0) 0 ((g3 0) + 1)))))] H := hP
                          have hD : va_D A [(z 0, .inr (8, [.ref (z 1), .int (nI ty), .ref (z 2), .ref (z 3), .ref (z 4), .ref (z 5), .int (nI kn), .ref (z 6), .ref (z 7), .ref (z 8), .int (nI no), .int (nI at_), .int (nI so), .int (nI sr), .int (nI va), .ref (z 9)])), (z 2, .inl (k.1 0, 23, .inl (ta_e t))), (z 4, .inl (k.1 0, 66, .inl (ta_e (ta_u (ta_u (ta_u g3 1 ((g3 1) + 1)) 1 0) 0 ((g3 0) + 1)))))] := hD
                          refine lv_iload_n hx hb dX8_goes_216 rfl (lv_at hl 1 rfl) ?_
                          have e : ta_u (ta_u (ta_u g3 1 ((g3 1) + 1)) 1 0) 0 ((g3 0) + 1) = tg_go t g := by rw [ego]; unfold tg_wind; rw [if_pos (by omega), ta_uu]
                          have ekn : nI 4294967295 = nI (tg_kn g) := by unfold tg_kn; rw [epre, ← ha]; first | rw [if_pos (by omega)] | rw [if_neg (by omega)]
                          rw [e] at hP hD
                          exact ret _ () dX8_goes_217 rfl ekn hP hD hS
                      · refine ta_iconst C 4294967295 dX8_goes_168 (by decide) ?_
                        refine lv_goto (tgt := 173) hx hb dX8_goes_169 (by decide) ?_
                        refine ta_iast C hP hD hS 2 rfl (i := 4) (v := 4294967295) (by omega) dX8_goes_173 (fun H locs hP hD hS => ?_)
                        have hP : va_P D vwCl [(z 0, .inr (8, [.ref (z 1), .int (nI ty), .ref (z 2), .ref (z 3), .ref (z 4), .ref (z 5), .int (nI kn), .ref (z 6), .ref (z 7), .ref (z 8), .int (nI no), .int (nI at_), .int (nI so), .int (nI sr), .int (nI va), .ref (z 9)])), (z 2, .inl (k.1 0, 23, .inl (ta_e t))), (z 4, .inl (k.1 0, 66, .inl (ta_e (ta_u (ta_u g2 5 ((g2 5) - 1)) 4 4294967295))))] H := hP
                        have hD : va_D A [(z 0, .inr (8, [.ref (z 1), .int (nI ty), .ref (z 2), .ref (z 3), .ref (z 4), .ref (z 5), .int (nI kn), .ref (z 6), .ref (z 7), .ref (z 8), .int (nI no), .int (nI at_), .int (nI so), .int (nI sr), .int (nI va), .ref (z 9)])), (z 2, .inl (k.1 0, 23, .inl (ta_e t))), (z 4, .inl (k.1 0, 66, .inl (ta_e (ta_u (ta_u g2 5 ((g2 5) - 1)) 4 4294967295))))] := hD
                        obtain ⟨g3, hg3⟩ : ∃ z, z = ta_u (ta_u g2 5 ((g2 5) - 1)) 4 4294967295 := ⟨_, rfl⟩
                        rw [← hg3] at hP hD
                        have edo : tg_do t g1 0 = g3 := by unfold tg_do; rw [hg3, eact, k5, if_pos (by omega)]
                        have ego : tg_go t g = tg_wind t g3 1 := by unfold tg_go; rw [epre, ← ha, if_neg (by omega), edo]
                        have k1 : g3 1 = g1 1 := by rw [← edo]; exact tg_do_k (by omega) e2 (by omega) (by omega) (by omega) (by omega) (by omega)
                        have hP : va_P D vwCl [(z 0, .inr (8, [.ref (z 1), .int (nI ty), .ref (z 2), .ref (z 3), .ref (z 4), .ref (z 5), .int (nI kn), .ref (z 6), .ref (z 7), .ref (z 8), .int (nI no), .int (nI at_), .int (nI so), .int (nI sr), .int (nI va), .ref (z 9)])), (z 2, .inl (k.1 0, 23, .inl (ta_e t))), (z 4, .inl (k.1 0, 66, .inl (ta_e g3)))] H := hP
                        have hD : va_D A [(z 0, .inr (8, [.ref (z 1), .int (nI ty), .ref (z 2), .ref (z 3), .ref (z 4), .ref (z 5), .int (nI kn), .ref (z 6), .ref (z 7), .ref (z 8), .int (nI no), .int (nI at_), .int (nI so), .int (nI sr), .int (nI va), .ref (z 9)])), (z 2, .inl (k.1 0, 23, .inl (ta_e t))), (z 4, .inl (k.1 0, 66, .inl (ta_e g3)))] := hD
                        refine lv_aload_n hx hb dX8_goes_174 rfl (lv_at hl 3 rfl) ?_
                        refine ta_get C hP 0 inlX8 rfl rfl 4 (by decide) tw_128 rfl dX8_goes_175 ?_
                        refine ta_iconst C 1 dX8_goes_178 (by decide) ?_
                        refine lv_dup2_11 hx hb dX8_goes_179 rfl rfl ?_
                        refine ta_iald C hP 2 rfl (i := 1) (by omega) dX8_goes_180 ?_
                        refine ta_iconst C 1 dX8_goes_181 (by decide) ?_
                        refine ta_iadd C (a := g3 1) (b := 1) dX8_goes_182 ?_
                        refine ta_iast C hP hD hS 2 rfl (i := 1) (v := (g3 1) + 1) (by omega) dX8_goes_183 (fun H locs hP hD hS => ?_)
                        have hP : va_P D vwCl [(z 0, .inr (8, [.ref (z 1), .int (nI ty), .ref (z 2), .ref (z 3), .ref (z 4), .ref (z 5), .int (nI kn), .ref (z 6), .ref (z 7), .ref (z 8), .int (nI no), .int (nI at_), .int (nI so), .int (nI sr), .int (nI va), .ref (z 9)])), (z 2, .inl (k.1 0, 23, .inl (ta_e t))), (z 4, .inl (k.1 0, 66, .inl (ta_e (ta_u g3 1 ((g3 1) + 1)))))] H := hP
                        have hD : va_D A [(z 0, .inr (8, [.ref (z 1), .int (nI ty), .ref (z 2), .ref (z 3), .ref (z 4), .ref (z 5), .int (nI kn), .ref (z 6), .ref (z 7), .ref (z 8), .int (nI no), .int (nI at_), .int (nI so), .int (nI sr), .int (nI va), .ref (z 9)])), (z 2, .inl (k.1 0, 23, .inl (ta_e t))), (z 4, .inl (k.1 0, 66, .inl (ta_e (ta_u g3 1 ((g3 1) + 1)))))] := hD
                        refine lv_aload_n hx hb dX8_goes_184 rfl (lv_at hl 3 rfl) ?_
                        refine ta_get C hP 0 inlX8 rfl rfl 4 (by decide) tw_128 rfl dX8_goes_185 ?_
                        refine ta_iconst C 1 dX8_goes_188 (by decide) ?_
                        refine ta_iald C hP 2 rfl (i := 1) (by omega) dX8_goes_189 ?_
                        refine ta_nv (y := (g3 1) + 1) ta_us ?_
                        refine lv_aload_n hx hb dX8_goes_190 rfl (lv_at hl 3 rfl) ?_
                        refine ta_get C hP 0 inlX8 rfl rfl 2 (by decide) tw_126 rfl dX8_goes_191 ?_
                        refine ta_iconst C 2 dX8_goes_194 (by decide) ?_
                        refine ta_iald C hP 1 rfl (i := 2) (by omega) dX8_goes_195 ?_
                        refine ta_cne C (a := (g3 1) + 1) (b := t 2) (tgt := 216) (by omega) (by omega) dX8_goes_196 (by decide) (fun c79 => ?_) (fun c79 => ?_)
                        · refine lv_iload_n hx hb dX8_goes_216 rfl (lv_at hl 1 rfl) ?_
                          have e : ta_u g3 1 ((g3 1) + 1) = tg_go t g := by rw [ego]; unfold tg_wind; rw [if_neg (by omega)]
                          have ekn : nI 4294967295 = nI (tg_kn g) := by unfold tg_kn; rw [epre, ← ha]; first | rw [if_pos (by omega)] | rw [if_neg (by omega)]
                          rw [e] at hP hD
                          exact ret _ () dX8_goes_217 rfl ekn hP hD hS
                        · refine lv_aload_n hx hb dX8_goes_199 rfl (lv_at hl 3 rfl) ?_
                          refine ta_get C hP 0 inlX8 rfl rfl 4 (by decide) tw_128 rfl dX8_goes_200 ?_
                          refine ta_iconst C 1 dX8_goes_203 (by decide) ?_
                          refine ta_iconst C 0 dX8_goes_204 (by decide) ?_
                          refine ta_iast C hP hD hS 2 rfl (i := 1) (v := 0) (by omega) dX8_goes_205 (fun H locs hP hD hS => ?_)
                          have hP : va_P D vwCl [(z 0, .inr (8, [.ref (z 1), .int (nI ty), .ref (z 2), .ref (z 3), .ref (z 4), .ref (z 5), .int (nI kn), .ref (z 6), .ref (z 7), .ref (z 8), .int (nI no), .int (nI at_), .int (nI so), .int (nI sr), .int (nI va), .ref (z 9)])), (z 2, .inl (k.1 0, 23, .inl (ta_e t))), (z 4, .inl (k.1 0, 66, .inl (ta_e (ta_u (ta_u g3 1 ((g3 1) + 1)) 1 0))))] H := hP
                          have hD : va_D A [(z 0, .inr (8, [.ref (z 1), .int (nI ty), .ref (z 2), .ref (z 3), .ref (z 4), .ref (z 5), .int (nI kn), .ref (z 6), .ref (z 7), .ref (z 8), .int (nI no), .int (nI at_), .int (nI so), .int (nI sr), .int (nI va), .ref (z 9)])), (z 2, .inl (k.1 0, 23, .inl (ta_e t))), (z 4, .inl (k.1 0, 66, .inl (ta_e (ta_u (ta_u g3 1 ((g3 1) + 1)) 1 0))))] := hD
                          refine lv_aload_n hx hb dX8_goes_206 rfl (lv_at hl 3 rfl) ?_
                          refine ta_get C hP 0 inlX8 rfl rfl 4 (by decide) tw_128 rfl dX8_goes_207 ?_
                          refine ta_iconst C 0 dX8_goes_210 (by decide) ?_
                          refine lv_dup2_11 hx hb dX8_goes_211 rfl rfl ?_
                          refine ta_iald C hP 2 rfl (i := 0) (by omega) dX8_goes_212 ?_
                          refine ta_nv (y := (ta_u g3 1 ((g3 1) + 1)) 0) (ta_un (by decide)) ?_
                          refine ta_nv (y := g3 0) (ta_un (by decide)) ?_
                          refine ta_iconst C 1 dX8_goes_213 (by decide) ?_
                          refine ta_iadd C (a := g3 0) (b := 1) dX8_goes_214 ?_
                          refine ta_iast C hP hD hS 2 rfl (i := 0) (v := (g3 0) + 1) (by omega) dX8_goes_215 (fun H locs hP hD hS => ?_)
                          have hP : va_P D vwCl [(z 0, .inr (8, [.ref (z 1), .int (nI ty), .ref (z 2), .ref (z 3), .ref (z 4), .ref (z 5), .int (nI kn), .ref (z 6), .ref (z 7), .ref (z 8), .int (nI no), .int (nI at_), .int (nI so), .int (nI sr), .int (nI va), .ref (z 9)])), (z 2, .inl (k.1 0, 23, .inl (ta_e t))), (z 4, .inl (k.1 0, 66, .inl (ta_e (ta_u (ta_u (ta_u g3 1 ((g3 1) + 1)) 1 0) 0 ((g3 0) + 1)))))] H := hP
                          have hD : va_D A [(z 0, .inr (8, [.ref (z 1), .int (nI ty), .ref (z 2), .ref (z 3), .ref (z 4), .ref (z 5), .int (nI kn), .ref (z 6), .ref (z 7), .ref (z 8), .int (nI no), .int (nI at_), .int (nI so), .int (nI sr), .int (nI va), .ref (z 9)])), (z 2, .inl (k.1 0, 23, .inl (ta_e t))), (z 4, .inl (k.1 0, 66, .inl (ta_e (ta_u (ta_u (ta_u g3 1 ((g3 1) + 1)) 1 0) 0 ((g3 0) + 1)))))] := hD
                          refine lv_iload_n hx hb dX8_goes_216 rfl (lv_at hl 1 rfl) ?_
                          have e : ta_u (ta_u (ta_u g3 1 ((g3 1) + 1)) 1 0) 0 ((g3 0) + 1) = tg_go t g := by rw [ego]; unfold tg_wind; rw [if_pos (by omega), ta_uu]
                          have ekn : nI 4294967295 = nI (tg_kn g) := by unfold tg_kn; rw [epre, ← ha]; first | rw [if_pos (by omega)] | rw [if_neg (by omega)]
                          rw [e] at hP hD
                          exact ret _ () dX8_goes_217 rfl ekn hP hD hS
                    · exact absurd c76 (by decide)
                  · exact absurd c75 (by decide)
                · exact absurd c74 (by decide)
              · exact absurd c73 (by decide)
            · exact absurd c69 (by decide)
        · refine ta_nv (y := 1) h4 ?_
          refine lv_istore_n (lv' := [(3, .int (nI 1)), (2, .int (nI 4294967295)), (1, .int (nI 0)), (0, .ref (z 0))]) hx hb dX8_goes_44 rfl hl (by decide) rfl (fun ls hl => ?_)
          refine lv_iload_n hx hb dX8_goes_45 rfl (lv_at hl 0 rfl) ?_
          refine ta_iconst C 4294967295 dX8_goes_46 (by decide) ?_
          refine lv_icmp_eq (tgt := 174) hx hb dX8_goes_47 (by decide) (fun c80 => ?_) (fun c80 => ?_)
          · exact absurd c80 (by decide)
          · refine lv_iload_n hx hb dX8_goes_50 rfl (lv_at hl 0 rfl) ?_
            refine lv_if_eq (tgt := 59) hx hb dX8_goes_51 (by decide) (fun c81 => ?_) (fun c81 => ?_)
            · exact absurd c81 (by decide)
            · refine lv_iload_n hx hb dX8_goes_54 rfl (lv_at hl 0 rfl) ?_
              refine ta_iconst C 2 dX8_goes_55 (by decide) ?_
              refine lv_icmp_ne (tgt := 69) hx hb dX8_goes_56 (by decide) (fun c82 => ?_) (fun c82 => ?_)
              · refine lv_iload_n hx hb dX8_goes_69 rfl (lv_at hl 0 rfl) ?_
                refine ta_iconst C 2 dX8_goes_70 (by decide) ?_
                refine lv_icmp_ne (tgt := 84) hx hb dX8_goes_71 (by decide) (fun c83 => ?_) (fun c83 => ?_)
                · refine lv_iload_n hx hb dX8_goes_84 rfl (lv_at hl 0 rfl) ?_
                  refine ta_iconst C 1 dX8_goes_85 (by decide) ?_
                  refine lv_icmp_ne (tgt := 103) hx hb dX8_goes_86 (by decide) (fun c84 => ?_) (fun c84 => ?_)
                  · exact absurd c84 (by decide)
                  · refine lv_aload_n hx hb dX8_goes_89 rfl (lv_at hl 3 rfl) ?_
                    refine lv_aload_n hx hb dX8_goes_90 rfl (lv_at hl 3 rfl) ?_
                    refine ta_get C hP 0 inlX8 rfl rfl 4 (by decide) tw_128 rfl dX8_goes_91 ?_
                    refine ta_iconst C 3 dX8_goes_94 (by decide) ?_
                    refine ta_iald C hP 2 rfl (i := 3) (by omega) dX8_goes_95 ?_
                    refine ta_iconst C 2 dX8_goes_96 (by decide) ?_
                    refine ta_iadd C (a := g1 3) (b := 2) dX8_goes_97 ?_
                    refine ta_iconst C 4 dX8_goes_98 (by decide) ?_
                    refine ta_irem C (a := (g1 3) + 2) (b := 4) (by omega) (by omega) (by omega) dX8_goes_99 ?_
                    refine ta_callVv (As := [.int (nI (((g1 3) + 2) % 4))]) (rest0 := []) (Wr := []) C hP hD hS (c_X8_steps l D k z ty kn no at_ so sr va t g1 (((g1 3) + 2) % 4) hok1 (by omega)) 0 rfl rfl rfl [0, 1, 2] [] rfl rfl (by decide) (by decide) (by decide) tw_489 tw_486 tw_5 tw_487 tw_488 ⟨by decide, by decide, rfl⟩ ⟨Nat.le_of_ble_eq_true rfl, Nat.le_of_ble_eq_true rfl⟩ ⟨Nat.zero_le _, Nat.zero_le _⟩ hl.1 rfl (Nat.le_of_ble_eq_true rfl) dX8_goes_100 (fun u86 H locs h87 hP hD hS => ?_)
                    have hP : va_P D vwCl [(z 0, .inr (8, [.ref (z 1), .int (nI ty), .ref (z 2), .ref (z 3), .ref (z 4), .ref (z 5), .int (nI kn), .ref (z 6), .ref (z 7), .ref (z 8), .int (nI no), .int (nI at_), .int (nI so), .int (nI sr), .int (nI va), .ref (z 9)])), (z 2, .inl (k.1 0, 23, .inl (ta_e t))), (z 4, .inl (k.1 0, 66, .inl (ta_e (tg_step t g1 (((g1 3) + 2) % 4)))))] H := hP
                    have hD : va_D A [(z 0, .inr (8, [.ref (z 1), .int (nI ty), .ref (z 2), .ref (z 3), .ref (z 4), .ref (z 5), .int (nI kn), .ref (z 6), .ref (z 7), .ref (z 8), .int (nI no), .int (nI at_), .int (nI so), .int (nI sr), .int (nI va), .ref (z 9)])), (z 2, .inl (k.1 0, 23, .inl (ta_e t))), (z 4, .inl (k.1 0, 66, .inl (ta_e (tg_step t g1 (((g1 3) + 2) % 4)))))] := hD
                    refine lv_iload_n hx hb dX8_goes_103 rfl (lv_at hl 0 rfl) ?_
                    refine ta_iconst C 3 dX8_goes_104 (by decide) ?_
                    refine lv_icmp_ne (tgt := 124) hx hb dX8_goes_105 (by decide) (fun c88 => ?_) (fun c88 => ?_)
                    · refine lv_iload_n hx hb dX8_goes_124 rfl (lv_at hl 0 rfl) ?_
                      refine ta_iconst C 4 dX8_goes_125 (by decide) ?_
                      refine lv_icmp_ne (tgt := 144) hx hb dX8_goes_126 (by decide) (fun c89 => ?_) (fun c89 => ?_)
                      · obtain ⟨g2, hg2⟩ : ∃ z, z = tg_step t g1 (((g1 3) + 2) % 4) := ⟨_, rfl⟩
                        rw [← hg2] at hP hD
                        have eact : tg_act t g1 0 = g2 := by rw [hg2]; unfold tg_act; rw [if_neg (by omega), if_pos h4]
                        have k5 : g2 5 = g1 5 := by rw [← eact]; exact tg_act_k (by omega) e2 (by omega) (by omega) (by omega)
                        have hP : va_P D vwCl [(z 0, .inr (8, [.ref (z 1), .int (nI ty), .ref (z 2), .ref (z 3), .ref (z 4), .ref (z 5), .int (nI kn), .ref (z 6), .ref (z 7), .ref (z 8), .int (nI no), .int (nI at_), .int (nI so), .int (nI sr), .int (nI va), .ref (z 9)])), (z 2, .inl (k.1 0, 23, .inl (ta_e t))), (z 4, .inl (k.1 0, 66, .inl (ta_e g2)))] H := hP
                        have hD : va_D A [(z 0, .inr (8, [.ref (z 1), .int (nI ty), .ref (z 2), .ref (z 3), .ref (z 4), .ref (z 5), .int (nI kn), .ref (z 6), .ref (z 7), .ref (z 8), .int (nI no), .int (nI at_), .int (nI so), .int (nI sr), .int (nI va), .ref (z 9)])), (z 2, .inl (k.1 0, 23, .inl (ta_e t))), (z 4, .inl (k.1 0, 66, .inl (ta_e g2)))] := hD
                        refine lv_aload_n hx hb dX8_goes_144 rfl (lv_at hl 3 rfl) ?_
                        refine ta_get C hP 0 inlX8 rfl rfl 4 (by decide) tw_128 rfl dX8_goes_145 ?_
                        refine ta_iconst C 5 dX8_goes_148 (by decide) ?_
                        refine lv_dup2_11 hx hb dX8_goes_149 rfl rfl ?_
                        refine ta_iald C hP 2 rfl (i := 5) (by omega) dX8_goes_150 ?_
                        refine ta_iconst C 1 dX8_goes_151 (by decide) ?_
                        refine ta_isub C (a := g2 5) (b := 1) (by omega) dX8_goes_152 ?_
                        refine ta_iast C hP hD hS 2 rfl (i := 5) (v := (g2 5) - 1) (by omega) dX8_goes_153 (fun H locs hP hD hS => ?_)
                        have hP : va_P D vwCl [(z 0, .inr (8, [.ref (z 1), .int (nI ty), .ref (z 2), .ref (z 3), .ref (z 4), .ref (z 5), .int (nI kn), .ref (z 6), .ref (z 7), .ref (z 8), .int (nI no), .int (nI at_), .int (nI so), .int (nI sr), .int (nI va), .ref (z 9)])), (z 2, .inl (k.1 0, 23, .inl (ta_e t))), (z 4, .inl (k.1 0, 66, .inl (ta_e (ta_u g2 5 ((g2 5) - 1)))))] H := hP
                        have hD : va_D A [(z 0, .inr (8, [.ref (z 1), .int (nI ty), .ref (z 2), .ref (z 3), .ref (z 4), .ref (z 5), .int (nI kn), .ref (z 6), .ref (z 7), .ref (z 8), .int (nI no), .int (nI at_), .int (nI so), .int (nI sr), .int (nI va), .ref (z 9)])), (z 2, .inl (k.1 0, 23, .inl (ta_e t))), (z 4, .inl (k.1 0, 66, .inl (ta_e (ta_u g2 5 ((g2 5) - 1)))))] := hD
                        refine lv_aload_n hx hb dX8_goes_154 rfl (lv_at hl 3 rfl) ?_
                        refine ta_get C hP 0 inlX8 rfl rfl 4 (by decide) tw_128 rfl dX8_goes_155 ?_
                        refine ta_iconst C 4 dX8_goes_158 (by decide) ?_
                        refine lv_aload_n hx hb dX8_goes_159 rfl (lv_at hl 3 rfl) ?_
                        refine ta_get C hP 0 inlX8 rfl rfl 4 (by decide) tw_128 rfl dX8_goes_160 ?_
                        refine ta_iconst C 5 dX8_goes_163 (by decide) ?_
                        refine ta_iald C hP 2 rfl (i := 5) (by omega) dX8_goes_164 ?_
                        refine ta_nv (y := (g2 5) - 1) ta_us ?_
                        refine ta_ine C (a := (g2 5) - 1) (tgt := 172) (by omega) dX8_goes_165 (by decide) (fun c90 => ?_) (fun c90 => ?_)
                        · refine lv_iload_n hx hb dX8_goes_172 rfl (lv_at hl 0 rfl) ?_
                          refine ta_iast C hP hD hS 2 rfl (i := 4) (v := 1) (by omega) dX8_goes_173 (fun H locs hP hD hS => ?_)
                          have hP : va_P D vwCl [(z 0, .inr (8, [.ref (z 1), .int (nI ty), .ref (z 2), .ref (z 3), .ref (z 4), .ref (z 5), .int (nI kn), .ref (z 6), .ref (z 7), .ref (z 8), .int (nI no), .int (nI at_), .int (nI so), .int (nI sr), .int (nI va), .ref (z 9)])), (z 2, .inl (k.1 0, 23, .inl (ta_e t))), (z 4, .inl (k.1 0, 66, .inl (ta_e (ta_u (ta_u g2 5 ((g2 5) - 1)) 4 1))))] H := hP
                          have hD : va_D A [(z 0, .inr (8, [.ref (z 1), .int (nI ty), .ref (z 2), .ref (z 3), .ref (z 4), .ref (z 5), .int (nI kn), .ref (z 6), .ref (z 7), .ref (z 8), .int (nI no), .int (nI at_), .int (nI so), .int (nI sr), .int (nI va), .ref (z 9)])), (z 2, .inl (k.1 0, 23, .inl (ta_e t))), (z 4, .inl (k.1 0, 66, .inl (ta_e (ta_u (ta_u g2 5 ((g2 5) - 1)) 4 1))))] := hD
                          obtain ⟨g3, hg3⟩ : ∃ z, z = ta_u (ta_u g2 5 ((g2 5) - 1)) 4 1 := ⟨_, rfl⟩
                          rw [← hg3] at hP hD
                          have edo : tg_do t g1 0 = g3 := by unfold tg_do; rw [hg3, eact, k5, if_neg (by omega), h4]
                          have ego : tg_go t g = tg_wind t g3 1 := by unfold tg_go; rw [epre, ← ha, if_neg (by omega), edo]
                          have k1 : g3 1 = g1 1 := by rw [← edo]; exact tg_do_k (by omega) e2 (by omega) (by omega) (by omega) (by omega) (by omega)
                          have hP : va_P D vwCl [(z 0, .inr (8, [.ref (z 1), .int (nI ty), .ref (z 2), .ref (z 3), .ref (z 4), .ref (z 5), .int (nI kn), .ref (z 6), .ref (z 7), .ref (z 8), .int (nI no), .int (nI at_), .int (nI so), .int (nI sr), .int (nI va), .ref (z 9)])), (z 2, .inl (k.1 0, 23, .inl (ta_e t))), (z 4, .inl (k.1 0, 66, .inl (ta_e g3)))] H := hP
                          have hD : va_D A [(z 0, .inr (8, [.ref (z 1), .int (nI ty), .ref (z 2), .ref (z 3), .ref (z 4), .ref (z 5), .int (nI kn), .ref (z 6), .ref (z 7), .ref (z 8), .int (nI no), .int (nI at_), .int (nI so), .int (nI sr), .int (nI va), .ref (z 9)])), (z 2, .inl (k.1 0, 23, .inl (ta_e t))), (z 4, .inl (k.1 0, 66, .inl (ta_e g3)))] := hD
                          refine lv_aload_n hx hb dX8_goes_174 rfl (lv_at hl 3 rfl) ?_
                          refine ta_get C hP 0 inlX8 rfl rfl 4 (by decide) tw_128 rfl dX8_goes_175 ?_
                          refine ta_iconst C 1 dX8_goes_178 (by decide) ?_
                          refine lv_dup2_11 hx hb dX8_goes_179 rfl rfl ?_
                          refine ta_iald C hP 2 rfl (i := 1) (by omega) dX8_goes_180 ?_
                          refine ta_iconst C 1 dX8_goes_181 (by decide) ?_
                          refine ta_iadd C (a := g3 1) (b := 1) dX8_goes_182 ?_
                          refine ta_iast C hP hD hS 2 rfl (i := 1) (v := (g3 1) + 1) (by omega) dX8_goes_183 (fun H locs hP hD hS => ?_)
                          have hP : va_P D vwCl [(z 0, .inr (8, [.ref (z 1), .int (nI ty), .ref (z 2), .ref (z 3), .ref (z 4), .ref (z 5), .int (nI kn), .ref (z 6), .ref (z 7), .ref (z 8), .int (nI no), .int (nI at_), .int (nI so), .int (nI sr), .int (nI va), .ref (z 9)])), (z 2, .inl (k.1 0, 23, .inl (ta_e t))), (z 4, .inl (k.1 0, 66, .inl (ta_e (ta_u g3 1 ((g3 1) + 1)))))] H := hP
                          have hD : va_D A [(z 0, .inr (8, [.ref (z 1), .int (nI ty), .ref (z 2), .ref (z 3), .ref (z 4), .ref (z 5), .int (nI kn), .ref (z 6), .ref (z 7), .ref (z 8), .int (nI no), .int (nI at_), .int (nI so), .int (nI sr), .int (nI va), .ref (z 9)])), (z 2, .inl (k.1 0, 23, .inl (ta_e t))), (z 4, .inl (k.1 0, 66, .inl (ta_e (ta_u g3 1 ((g3 1) + 1)))))] := hD
                          refine lv_aload_n hx hb dX8_goes_184 rfl (lv_at hl 3 rfl) ?_
                          refine ta_get C hP 0 inlX8 rfl rfl 4 (by decide) tw_128 rfl dX8_goes_185 ?_
                          refine ta_iconst C 1 dX8_goes_188 (by decide) ?_
                          refine ta_iald C hP 2 rfl (i := 1) (by omega) dX8_goes_189 ?_
                          refine ta_nv (y := (g3 1) + 1) ta_us ?_
                          refine lv_aload_n hx hb dX8_goes_190 rfl (lv_at hl 3 rfl) ?_
                          refine ta_get C hP 0 inlX8 rfl rfl 2 (by decide) tw_126 rfl dX8_goes_191 ?_
                          refine ta_iconst C 2 dX8_goes_194 (by decide) ?_
                          refine ta_iald C hP 1 rfl (i := 2) (by omega) dX8_goes_195 ?_
                          refine ta_cne C (a := (g3 1) + 1) (b := t 2) (tgt := 216) (by omega) (by omega) dX8_goes_196 (by decide) (fun c91 => ?_) (fun c91 => ?_)
                          · refine lv_iload_n hx hb dX8_goes_216 rfl (lv_at hl 1 rfl) ?_
                            have e : ta_u g3 1 ((g3 1) + 1) = tg_go t g := by rw [ego]; unfold tg_wind; rw [if_neg (by omega)]
                            have ekn : nI 4294967295 = nI (tg_kn g) := by unfold tg_kn; rw [epre, ← ha]; first | rw [if_pos (by omega)] | rw [if_neg (by omega)]
                            rw [e] at hP hD
                            exact ret _ () dX8_goes_217 rfl ekn hP hD hS
                          · refine lv_aload_n hx hb dX8_goes_199 rfl (lv_at hl 3 rfl) ?_
                            refine ta_get C hP 0 inlX8 rfl rfl 4 (by decide) tw_128 rfl dX8_goes_200 ?_
                            refine ta_iconst C 1 dX8_goes_203 (by decide) ?_
                            refine ta_iconst C 0 dX8_goes_204 (by decide) ?_
                            refine ta_iast C hP hD hS 2 rfl (i := 1) (v := 0) (by omega) dX8_goes_205 (fun H locs hP hD hS => ?_)
                            have hP : va_P D vwCl [(z 0, .inr (8, [.ref (z 1), .int (nI ty), .ref (z 2), .ref (z 3), .ref (z 4), .ref (z 5), .int (nI kn), .ref (z 6), .ref (z 7), .ref (z 8), .int (nI no), .int (nI at_), .int (nI so), .int (nI sr), .int (nI va), .ref (z 9)])), (z 2, .inl (k.1 0, 23, .inl (ta_e t))), (z 4, .inl (k.1 0, 66, .inl (ta_e (ta_u (ta_u g3 1 ((g3 1) + 1)) 1 0))))] H := hP
                            have hD : va_D A [(z 0, .inr (8, [.ref (z 1), .int (nI ty), .ref (z 2), .ref (z 3), .ref (z 4), .ref (z 5), .int (nI kn), .ref (z 6), .ref (z 7), .ref (z 8), .int (nI no), .int (nI at_), .int (nI so), .int (nI sr), .int (nI va), .ref (z 9)])), (z 2, .inl (k.1 0, 23, .inl (ta_e t))), (z 4, .inl (k.1 0, 66, .inl (ta_e (ta_u (ta_u g3 1 ((g3 1) + 1)) 1 0))))] := hD
                            refine lv_aload_n hx hb dX8_goes_206 rfl (lv_at hl 3 rfl) ?_
                            refine ta_get C hP 0 inlX8 rfl rfl 4 (by decide) tw_128 rfl dX8_goes_207 ?_
                            refine ta_iconst C 0 dX8_goes_210 (by decide) ?_
                            refine lv_dup2_11 hx hb dX8_goes_211 rfl rfl ?_
                            refine ta_iald C hP 2 rfl (i := 0) (by omega) dX8_goes_212 ?_
                            refine ta_nv (y := (ta_u g3 1 ((g3 1) + 1)) 0) (ta_un (by decide)) ?_
                            refine ta_nv (y := g3 0) (ta_un (by decide)) ?_
                            refine ta_iconst C 1 dX8_goes_213 (by decide) ?_
                            refine ta_iadd C (a := g3 0) (b := 1) dX8_goes_214 ?_
                            refine ta_iast C hP hD hS 2 rfl (i := 0) (v := (g3 0) + 1) (by omega) dX8_goes_215 (fun H locs hP hD hS => ?_)
                            have hP : va_P D vwCl [(z 0, .inr (8, [.ref (z 1), .int (nI ty), .ref (z 2), .ref (z 3), .ref (z 4), .ref (z 5), .int (nI kn), .ref (z 6), .ref (z 7), .ref (z 8), .int (nI no), .int (nI at_), .int (nI so), .int (nI sr), .int (nI va), .ref (z 9)])), (z 2, .inl (k.1 0, 23, .inl (ta_e t))), (z 4, .inl (k.1 0, 66, .inl (ta_e (ta_u (ta_u (ta_u g3 1 ((g3 1) + 1)) 1 0) 0 ((g3 0) + 1)))))] H := hP
                            have hD : va_D A [(z 0, .inr (8, [.ref (z 1), .int (nI ty), .ref (z 2), .ref (z 3), .ref (z 4), .ref (z 5), .int (nI kn), .ref (z 6), .ref (z 7), .ref (z 8), .int (nI no), .int (nI at_), .int (nI so), .int (nI sr), .int (nI va), .ref (z 9)])), (z 2, .inl (k.1 0, 23, .inl (ta_e t))), (z 4, .inl (k.1 0, 66, .inl (ta_e (ta_u (ta_u (ta_u g3 1 ((g3 1) + 1)) 1 0) 0 ((g3 0) + 1)))))] := hD
                            refine lv_iload_n hx hb dX8_goes_216 rfl (lv_at hl 1 rfl) ?_
                            have e : ta_u (ta_u (ta_u g3 1 ((g3 1) + 1)) 1 0) 0 ((g3 0) + 1) = tg_go t g := by rw [ego]; unfold tg_wind; rw [if_pos (by omega), ta_uu]
                            have ekn : nI 4294967295 = nI (tg_kn g) := by unfold tg_kn; rw [epre, ← ha]; first | rw [if_pos (by omega)] | rw [if_neg (by omega)]
                            rw [e] at hP hD
                            exact ret _ () dX8_goes_217 rfl ekn hP hD hS
                        · refine ta_iconst C 4294967295 dX8_goes_168 (by decide) ?_
                          refine lv_goto (tgt := 173) hx hb dX8_goes_169 (by decide) ?_
                          refine ta_iast C hP hD hS 2 rfl (i := 4) (v := 4294967295) (by omega) dX8_goes_173 (fun H locs hP hD hS => ?_)
                          have hP : va_P D vwCl [(z 0, .inr (8, [.ref (z 1), .int (nI ty), .ref (z 2), .ref (z 3), .ref (z 4), .ref (z 5), .int (nI kn), .ref (z 6), .ref (z 7), .ref (z 8), .int (nI no), .int (nI at_), .int (nI so), .int (nI sr), .int (nI va), .ref (z 9)])), (z 2, .inl (k.1 0, 23, .inl (ta_e t))), (z 4, .inl (k.1 0, 66, .inl (ta_e (ta_u (ta_u g2 5 ((g2 5) - 1)) 4 4294967295))))] H := hP
                          have hD : va_D A [(z 0, .inr (8, [.ref (z 1), .int (nI ty), .ref (z 2), .ref (z 3), .ref (z 4), .ref (z 5), .int (nI kn), .ref (z 6), .ref (z 7), .ref (z 8), .int (nI no), .int (nI at_), .int (nI so), .int (nI sr), .int (nI va), .ref (z 9)])), (z 2, .inl (k.1 0, 23, .inl (ta_e t))), (z 4, .inl (k.1 0, 66, .inl (ta_e (ta_u (ta_u g2 5 ((g2 5) - 1)) 4 4294967295))))] := hD
                          obtain ⟨g3, hg3⟩ : ∃ z, z = ta_u (ta_u g2 5 ((g2 5) - 1)) 4 4294967295 := ⟨_, rfl⟩
                          rw [← hg3] at hP hD
                          have edo : tg_do t g1 0 = g3 := by unfold tg_do; rw [hg3, eact, k5, if_pos (by omega)]
                          have ego : tg_go t g = tg_wind t g3 1 := by unfold tg_go; rw [epre, ← ha, if_neg (by omega), edo]
                          have k1 : g3 1 = g1 1 := by rw [← edo]; exact tg_do_k (by omega) e2 (by omega) (by omega) (by omega) (by omega) (by omega)
                          have hP : va_P D vwCl [(z 0, .inr (8, [.ref (z 1), .int (nI ty), .ref (z 2), .ref (z 3), .ref (z 4), .ref (z 5), .int (nI kn), .ref (z 6), .ref (z 7), .ref (z 8), .int (nI no), .int (nI at_), .int (nI so), .int (nI sr), .int (nI va), .ref (z 9)])), (z 2, .inl (k.1 0, 23, .inl (ta_e t))), (z 4, .inl (k.1 0, 66, .inl (ta_e g3)))] H := hP
                          have hD : va_D A [(z 0, .inr (8, [.ref (z 1), .int (nI ty), .ref (z 2), .ref (z 3), .ref (z 4), .ref (z 5), .int (nI kn), .ref (z 6), .ref (z 7), .ref (z 8), .int (nI no), .int (nI at_), .int (nI so), .int (nI sr), .int (nI va), .ref (z 9)])), (z 2, .inl (k.1 0, 23, .inl (ta_e t))), (z 4, .inl (k.1 0, 66, .inl (ta_e g3)))] := hD
                          refine lv_aload_n hx hb dX8_goes_174 rfl (lv_at hl 3 rfl) ?_
                          refine ta_get C hP 0 inlX8 rfl rfl 4 (by decide) tw_128 rfl dX8_goes_175 ?_
                          refine ta_iconst C 1 dX8_goes_178 (by decide) ?_
                          refine lv_dup2_11 hx hb dX8_goes_179 rfl rfl ?_
                          refine ta_iald C hP 2 rfl (i := 1) (by omega) dX8_goes_180 ?_
                          refine ta_iconst C 1 dX8_goes_181 (by decide) ?_
                          refine ta_iadd C (a := g3 1) (b := 1) dX8_goes_182 ?_
                          refine ta_iast C hP hD hS 2 rfl (i := 1) (v := (g3 1) + 1) (by omega) dX8_goes_183 (fun H locs hP hD hS => ?_)
                          have hP : va_P D vwCl [(z 0, .inr (8, [.ref (z 1), .int (nI ty), .ref (z 2), .ref (z 3), .ref (z 4), .ref (z 5), .int (nI kn), .ref (z 6), .ref (z 7), .ref (z 8), .int (nI no), .int (nI at_), .int (nI so), .int (nI sr), .int (nI va), .ref (z 9)])), (z 2, .inl (k.1 0, 23, .inl (ta_e t))), (z 4, .inl (k.1 0, 66, .inl (ta_e (ta_u g3 1 ((g3 1) + 1)))))] H := hP
                          have hD : va_D A [(z 0, .inr (8, [.ref (z 1), .int (nI ty), .ref (z 2), .ref (z 3), .ref (z 4), .ref (z 5), .int (nI kn), .ref (z 6), .ref (z 7), .ref (z 8), .int (nI no), .int (nI at_), .int (nI so), .int (nI sr), .int (nI va), .ref (z 9)])), (z 2, .inl (k.1 0, 23, .inl (ta_e t))), (z 4, .inl (k.1 0, 66, .inl (ta_e (ta_u g3 1 ((g3 1) + 1)))))] := hD
                          refine lv_aload_n hx hb dX8_goes_184 rfl (lv_at hl 3 rfl) ?_
                          refine ta_get C hP 0 inlX8 rfl rfl 4 (by decide) tw_128 rfl dX8_goes_185 ?_
                          refine ta_iconst C 1 dX8_goes_188 (by decide) ?_
                          refine ta_iald C hP 2 rfl (i := 1) (by omega) dX8_goes_189 ?_
                          refine ta_nv (y := (g3 1) + 1) ta_us ?_
                          refine lv_aload_n hx hb dX8_goes_190 rfl (lv_at hl 3 rfl) ?_
                          refine ta_get C hP 0 inlX8 rfl rfl 2 (by decide) tw_126 rfl dX8_goes_191 ?_
                          refine ta_iconst C 2 dX8_goes_194 (by decide) ?_
                          refine ta_iald C hP 1 rfl (i := 2) (by omega) dX8_goes_195 ?_
                          refine ta_cne C (a := (g3 1) + 1) (b := t 2) (tgt := 216) (by omega) (by omega) dX8_goes_196 (by decide) (fun c92 => ?_) (fun c92 => ?_)
                          · refine lv_iload_n hx hb dX8_goes_216 rfl (lv_at hl 1 rfl) ?_
                            have e : ta_u g3 1 ((g3 1) + 1) = tg_go t g := by rw [ego]; unfold tg_wind; rw [if_neg (by omega)]
                            have ekn : nI 4294967295 = nI (tg_kn g) := by unfold tg_kn; rw [epre, ← ha]; first | rw [if_pos (by omega)] | rw [if_neg (by omega)]
                            rw [e] at hP hD
                            exact ret _ () dX8_goes_217 rfl ekn hP hD hS
                          · refine lv_aload_n hx hb dX8_goes_199 rfl (lv_at hl 3 rfl) ?_
                            refine ta_get C hP 0 inlX8 rfl rfl 4 (by decide) tw_128 rfl dX8_goes_200 ?_
                            refine ta_iconst C 1 dX8_goes_203 (by decide) ?_
                            refine ta_iconst C 0 dX8_goes_204 (by decide) ?_
                            refine ta_iast C hP hD hS 2 rfl (i := 1) (v := 0) (by omega) dX8_goes_205 (fun H locs hP hD hS => ?_)
                            have hP : va_P D vwCl [(z 0, .inr (8, [.ref (z 1), .int (nI ty), .ref (z 2), .ref (z 3), .ref (z 4), .ref (z 5), .int (nI kn), .ref (z 6), .ref (z 7), .ref (z 8), .int (nI no), .int (nI at_), .int (nI so), .int (nI sr), .int (nI va), .ref (z 9)])), (z 2, .inl (k.1 0, 23, .inl (ta_e t))), (z 4, .inl (k.1 0, 66, .inl (ta_e (ta_u (ta_u g3 1 ((g3 1) + 1)) 1 0))))] H := hP
                            have hD : va_D A [(z 0, .inr (8, [.ref (z 1), .int (nI ty), .ref (z 2), .ref (z 3), .ref (z 4), .ref (z 5), .int (nI kn), .ref (z 6), .ref (z 7), .ref (z 8), .int (nI no), .int (nI at_), .int (nI so), .int (nI sr), .int (nI va), .ref (z 9)])), (z 2, .inl (k.1 0, 23, .inl (ta_e t))), (z 4, .inl (k.1 0, 66, .inl (ta_e (ta_u (ta_u g3 1 ((g3 1) + 1)) 1 0))))] := hD
                            refine lv_aload_n hx hb dX8_goes_206 rfl (lv_at hl 3 rfl) ?_
                            refine ta_get C hP 0 inlX8 rfl rfl 4 (by decide) tw_128 rfl dX8_goes_207 ?_
                            refine ta_iconst C 0 dX8_goes_210 (by decide) ?_
                            refine lv_dup2_11 hx hb dX8_goes_211 rfl rfl ?_
                            refine ta_iald C hP 2 rfl (i := 0) (by omega) dX8_goes_212 ?_
                            refine ta_nv (y := (ta_u g3 1 ((g3 1) + 1)) 0) (ta_un (by decide)) ?_
                            refine ta_nv (y := g3 0) (ta_un (by decide)) ?_
                            refine ta_iconst C 1 dX8_goes_213 (by decide) ?_
                            refine ta_iadd C (a := g3 0) (b := 1) dX8_goes_214 ?_
                            refine ta_iast C hP hD hS 2 rfl (i := 0) (v := (g3 0) + 1) (by omega) dX8_goes_215 (fun H locs hP hD hS => ?_)
                            have hP : va_P D vwCl [(z 0, .inr (8, [.ref (z 1), .int (nI ty), .ref (z 2), .ref (z 3), .ref (z 4), .ref (z 5), .int (nI kn), .ref (z 6), .ref (z 7), .ref (z 8), .int (nI no), .int (nI at_), .int (nI so), .int (nI sr), .int (nI va), .ref (z 9)])), (z 2, .inl (k.1 0, 23, .inl (ta_e t))), (z 4, .inl (k.1 0, 66, .inl (ta_e (ta_u (ta_u (ta_u g3 1 ((g3 1) + 1)) 1 0) 0 ((g3 0) + 1)))))] H := hP
                            have hD : va_D A [(z 0, .inr (8, [.ref (z 1), .int (nI ty), .ref (z 2), .ref (z 3), .ref (z 4), .ref (z 5), .int (nI kn), .ref (z 6), .ref (z 7), .ref (z 8), .int (nI no), .int (nI at_), .int (nI so), .int (nI sr), .int (nI va), .ref (z 9)])), (z 2, .inl (k.1 0, 23, .inl (ta_e t))), (z 4, .inl (k.1 0, 66, .inl (ta_e (ta_u (ta_u (ta_u g3 1 ((g3 1) + 1)) 1 0) 0 ((g3 0) + 1)))))] := hD
                            refine lv_iload_n hx hb dX8_goes_216 rfl (lv_at hl 1 rfl) ?_
                            have e : ta_u (ta_u (ta_u g3 1 ((g3 1) + 1)) 1 0) 0 ((g3 0) + 1) = tg_go t g := by rw [ego]; unfold tg_wind; rw [if_pos (by omega), ta_uu]
                            have ekn : nI 4294967295 = nI (tg_kn g) := by unfold tg_kn; rw [epre, ← ha]; first | rw [if_pos (by omega)] | rw [if_neg (by omega)]
                            rw [e] at hP hD
                            exact ret _ () dX8_goes_217 rfl ekn hP hD hS
                      · exact absurd c89 (by decide)
                    · exact absurd c88 (by decide)
                · exact absurd c83 (by decide)
              · exact absurd c82 (by decide)
        · refine ta_nv (y := 2) h4 ?_
          refine lv_istore_n (lv' := [(3, .int (nI 2)), (2, .int (nI 4294967295)), (1, .int (nI 0)), (0, .ref (z 0))]) hx hb dX8_goes_44 rfl hl (by decide) rfl (fun ls hl => ?_)
          refine lv_iload_n hx hb dX8_goes_45 rfl (lv_at hl 0 rfl) ?_
          refine ta_iconst C 4294967295 dX8_goes_46 (by decide) ?_
          refine lv_icmp_eq (tgt := 174) hx hb dX8_goes_47 (by decide) (fun c93 => ?_) (fun c93 => ?_)
          · exact absurd c93 (by decide)
          · refine lv_iload_n hx hb dX8_goes_50 rfl (lv_at hl 0 rfl) ?_
            refine lv_if_eq (tgt := 59) hx hb dX8_goes_51 (by decide) (fun c94 => ?_) (fun c94 => ?_)
            · exact absurd c94 (by decide)
            · refine lv_iload_n hx hb dX8_goes_54 rfl (lv_at hl 0 rfl) ?_
              refine ta_iconst C 2 dX8_goes_55 (by decide) ?_
              refine lv_icmp_ne (tgt := 69) hx hb dX8_goes_56 (by decide) (fun c95 => ?_) (fun c95 => ?_)
              · exact absurd c95 (by decide)
              · refine lv_aload_n hx hb dX8_goes_59 rfl (lv_at hl 3 rfl) ?_
                refine lv_aload_n hx hb dX8_goes_60 rfl (lv_at hl 3 rfl) ?_
                refine ta_get C hP 0 inlX8 rfl rfl 4 (by decide) tw_128 rfl dX8_goes_61 ?_
                refine ta_iconst C 3 dX8_goes_64 (by decide) ?_
                refine ta_iald C hP 2 rfl (i := 3) (by omega) dX8_goes_65 ?_
                refine ta_callVv (As := [.int (nI (g1 3))]) (rest0 := []) (Wr := []) C hP hD hS (c_X8_steps l D k z ty kn no at_ so sr va t g1 (g1 3) hok1 e3) 0 rfl rfl rfl [0, 1, 2] [] rfl rfl (by decide) (by decide) (by decide) tw_489 tw_486 tw_5 tw_487 tw_488 ⟨by decide, by decide, rfl⟩ ⟨Nat.le_of_ble_eq_true rfl, Nat.le_of_ble_eq_true rfl⟩ ⟨Nat.zero_le _, Nat.zero_le _⟩ hl.1 rfl (Nat.le_of_ble_eq_true rfl) dX8_goes_66 (fun u97 H locs h98 hP hD hS => ?_)
                have hP : va_P D vwCl [(z 0, .inr (8, [.ref (z 1), .int (nI ty), .ref (z 2), .ref (z 3), .ref (z 4), .ref (z 5), .int (nI kn), .ref (z 6), .ref (z 7), .ref (z 8), .int (nI no), .int (nI at_), .int (nI so), .int (nI sr), .int (nI va), .ref (z 9)])), (z 2, .inl (k.1 0, 23, .inl (ta_e t))), (z 4, .inl (k.1 0, 66, .inl (ta_e (tg_step t g1 (g1 3)))))] H := hP
                have hD : va_D A [(z 0, .inr (8, [.ref (z 1), .int (nI ty), .ref (z 2), .ref (z 3), .ref (z 4), .ref (z 5), .int (nI kn), .ref (z 6), .ref (z 7), .ref (z 8), .int (nI no), .int (nI at_), .int (nI so), .int (nI sr), .int (nI va), .ref (z 9)])), (z 2, .inl (k.1 0, 23, .inl (ta_e t))), (z 4, .inl (k.1 0, 66, .inl (ta_e (tg_step t g1 (g1 3)))))] := hD
                refine lv_iload_n hx hb dX8_goes_69 rfl (lv_at hl 0 rfl) ?_
                refine ta_iconst C 2 dX8_goes_70 (by decide) ?_
                refine lv_icmp_ne (tgt := 84) hx hb dX8_goes_71 (by decide) (fun c99 => ?_) (fun c99 => ?_)
                · exact absurd c99 (by decide)
                · refine lv_aload_n hx hb dX8_goes_74 rfl (lv_at hl 3 rfl) ?_
                  refine lv_aload_n hx hb dX8_goes_75 rfl (lv_at hl 3 rfl) ?_
                  refine ta_get C hP 0 inlX8 rfl rfl 4 (by decide) tw_128 rfl dX8_goes_76 ?_
                  refine ta_iconst C 3 dX8_goes_79 (by decide) ?_
                  refine ta_iald C hP 2 rfl (i := 3) (by omega) dX8_goes_80 ?_
                  refine ta_callVv (As := [.int (nI ((tg_step t g1 (g1 3)) 3))]) (rest0 := []) (Wr := []) C hP hD hS (c_X8_steps l D k z ty kn no at_ so sr va t (tg_step t g1 (g1 3)) ((tg_step t g1 (g1 3)) 3) (tg_ok_step _ hok1) (by rw [tg_step_k (by omega) e2 (by omega) (by omega)]; exact e3)) 0 rfl rfl rfl [0, 1, 2] [] rfl rfl (by decide) (by decide) (by decide) tw_489 tw_486 tw_5 tw_487 tw_488 ⟨by decide, by decide, rfl⟩ ⟨Nat.le_of_ble_eq_true rfl, Nat.le_of_ble_eq_true rfl⟩ ⟨Nat.zero_le _, Nat.zero_le _⟩ hl.1 rfl (Nat.le_of_ble_eq_true rfl) dX8_goes_81 (fun u101 H locs h102 hP hD hS => ?_)
                  have hP : va_P D vwCl [(z 0, .inr (8, [.ref (z 1), .int (nI ty), .ref (z 2), .ref (z 3), .ref (z 4), .ref (z 5), .int (nI kn), .ref (z 6), .ref (z 7), .ref (z 8), .int (nI no), .int (nI at_), .int (nI so), .int (nI sr), .int (nI va), .ref (z 9)])), (z 2, .inl (k.1 0, 23, .inl (ta_e t))), (z 4, .inl (k.1 0, 66, .inl (ta_e (tg_step t (tg_step t g1 (g1 3)) ((tg_step t g1 (g1 3)) 3)))))] H := hP
                  have hD : va_D A [(z 0, .inr (8, [.ref (z 1), .int (nI ty), .ref (z 2), .ref (z 3), .ref (z 4), .ref (z 5), .int (nI kn), .ref (z 6), .ref (z 7), .ref (z 8), .int (nI no), .int (nI at_), .int (nI so), .int (nI sr), .int (nI va), .ref (z 9)])), (z 2, .inl (k.1 0, 23, .inl (ta_e t))), (z 4, .inl (k.1 0, 66, .inl (ta_e (tg_step t (tg_step t g1 (g1 3)) ((tg_step t g1 (g1 3)) 3)))))] := hD
                  refine lv_iload_n hx hb dX8_goes_84 rfl (lv_at hl 0 rfl) ?_
                  refine ta_iconst C 1 dX8_goes_85 (by decide) ?_
                  refine lv_icmp_ne (tgt := 103) hx hb dX8_goes_86 (by decide) (fun c103 => ?_) (fun c103 => ?_)
                  · refine lv_iload_n hx hb dX8_goes_103 rfl (lv_at hl 0 rfl) ?_
                    refine ta_iconst C 3 dX8_goes_104 (by decide) ?_
                    refine lv_icmp_ne (tgt := 124) hx hb dX8_goes_105 (by decide) (fun c104 => ?_) (fun c104 => ?_)
                    · refine lv_iload_n hx hb dX8_goes_124 rfl (lv_at hl 0 rfl) ?_
                      refine ta_iconst C 4 dX8_goes_125 (by decide) ?_
                      refine lv_icmp_ne (tgt := 144) hx hb dX8_goes_126 (by decide) (fun c105 => ?_) (fun c105 => ?_)
                      · obtain ⟨g2, hg2⟩ : ∃ z, z = tg_step t (tg_step t g1 (g1 3)) ((tg_step t g1 (g1 3)) 3) := ⟨_, rfl⟩
                        rw [← hg2] at hP hD
                        have eact : tg_act t g1 0 = g2 := by rw [hg2, show (tg_step t g1 (g1 3)) 3 = g1 3 from tg_step_k (by omega) e2 (by omega) (by omega)]; unfold tg_act; rw [if_neg (by omega), if_neg (by omega), if_pos h4]
                        have k5 : g2 5 = g1 5 := by rw [← eact]; exact tg_act_k (by omega) e2 (by omega) (by omega) (by omega)
                        have hP : va_P D vwCl [(z 0, .inr (8, [.ref (z 1), .int (nI ty), .ref (z 2), .ref (z 3), .ref (z 4), .ref (z 5), .int (nI kn), .ref (z 6), .ref (z 7), .ref (z 8), .int (nI no), .int (nI at_), .int (nI so), .int (nI sr), .int (nI va), .ref (z 9)])), (z 2, .inl (k.1 0, 23, .inl (ta_e t))), (z 4, .inl (k.1 0, 66, .inl (ta_e g2)))] H := hP
                        have hD : va_D A [(z 0, .inr (8, [.ref (z 1), .int (nI ty), .ref (z 2), .ref (z 3), .ref (z 4), .ref (z 5), .int (nI kn), .ref (z 6), .ref (z 7), .ref (z 8), .int (nI no), .int (nI at_), .int (nI so), .int (nI sr), .int (nI va), .ref (z 9)])), (z 2, .inl (k.1 0, 23, .inl (ta_e t))), (z 4, .inl (k.1 0, 66, .inl (ta_e g2)))] := hD
                        refine lv_aload_n hx hb dX8_goes_144 rfl (lv_at hl 3 rfl) ?_
                        refine ta_get C hP 0 inlX8 rfl rfl 4 (by decide) tw_128 rfl dX8_goes_145 ?_
                        refine ta_iconst C 5 dX8_goes_148 (by decide) ?_
                        refine lv_dup2_11 hx hb dX8_goes_149 rfl rfl ?_
                        refine ta_iald C hP 2 rfl (i := 5) (by omega) dX8_goes_150 ?_
                        refine ta_iconst C 1 dX8_goes_151 (by decide) ?_
                        refine ta_isub C (a := g2 5) (b := 1) (by omega) dX8_goes_152 ?_
                        refine ta_iast C hP hD hS 2 rfl (i := 5) (v := (g2 5) - 1) (by omega) dX8_goes_153 (fun H locs hP hD hS => ?_)
                        have hP : va_P D vwCl [(z 0, .inr (8, [.ref (z 1), .int (nI ty), .ref (z 2), .ref (z 3), .ref (z 4), .ref (z 5), .int (nI kn), .ref (z 6), .ref (z 7), .ref (z 8), .int (nI no), .int (nI at_), .int (nI so), .int (nI sr), .int (nI va), .ref (z 9)])), (z 2, .inl (k.1 0, 23, .inl (ta_e t))), (z 4, .inl (k.1 0, 66, .inl (ta_e (ta_u g2 5 ((g2 5) - 1)))))] H := hP
                        have hD : va_D A [(z 0, .inr (8, [.ref (z 1), .int (nI ty), .ref (z 2), .ref (z 3), .ref (z 4), .ref (z 5), .int (nI kn), .ref (z 6), .ref (z 7), .ref (z 8), .int (nI no), .int (nI at_), .int (nI so), .int (nI sr), .int (nI va), .ref (z 9)])), (z 2, .inl (k.1 0, 23, .inl (ta_e t))), (z 4, .inl (k.1 0, 66, .inl (ta_e (ta_u g2 5 ((g2 5) - 1)))))] := hD
                        refine lv_aload_n hx hb dX8_goes_154 rfl (lv_at hl 3 rfl) ?_
                        refine ta_get C hP 0 inlX8 rfl rfl 4 (by decide) tw_128 rfl dX8_goes_155 ?_
                        refine ta_iconst C 4 dX8_goes_158 (by decide) ?_
                        refine lv_aload_n hx hb dX8_goes_159 rfl (lv_at hl 3 rfl) ?_
                        refine ta_get C hP 0 inlX8 rfl rfl 4 (by decide) tw_128 rfl dX8_goes_160 ?_
                        refine ta_iconst C 5 dX8_goes_163 (by decide) ?_
                        refine ta_iald C hP 2 rfl (i := 5) (by omega) dX8_goes_164 ?_
                        refine ta_nv (y := (g2 5) - 1) ta_us ?_
                        refine ta_ine C (a := (g2 5) - 1) (tgt := 172) (by omega) dX8_goes_165 (by decide) (fun c106 => ?_) (fun c106 => ?_)
                        · refine lv_iload_n hx hb dX8_goes_172 rfl (lv_at hl 0 rfl) ?_
                          refine ta_iast C hP hD hS 2 rfl (i := 4) (v := 2) (by omega) dX8_goes_173 (fun H locs hP hD hS => ?_)
                          have hP : va_P D vwCl [(z 0, .inr (8, [.ref (z 1), .int (nI ty), .ref (z 2), .ref (z 3), .ref (z 4), .ref (z 5), .int (nI kn), .ref (z 6), .ref (z 7), .ref (z 8), .int (nI no), .int (nI at_), .int (nI so), .int (nI sr), .int (nI va), .ref (z 9)])), (z 2, .inl (k.1 0, 23, .inl (ta_e t))), (z 4, .inl (k.1 0, 66, .inl (ta_e (ta_u (ta_u g2 5 ((g2 5) - 1)) 4 2))))] H := hP
                          have hD : va_D A [(z 0, .inr (8, [.ref (z 1), .int (nI ty), .ref (z 2), .ref (z 3), .ref (z 4), .ref (z 5), .int (nI kn), .ref (z 6), .ref (z 7), .ref (z 8), .int (nI no), .int (nI at_), .int (nI so), .int (nI sr), .int (nI va), .ref (z 9)])), (z 2, .inl (k.1 0, 23, .inl (ta_e t))), (z 4, .inl (k.1 0, 66, .inl (ta_e (ta_u (ta_u g2 5 ((g2 5) - 1)) 4 2))))] := hD
                          obtain ⟨g3, hg3⟩ : ∃ z, z = ta_u (ta_u g2 5 ((g2 5) - 1)) 4 2 := ⟨_, rfl⟩
                          rw [← hg3] at hP hD
                          have edo : tg_do t g1 0 = g3 := by unfold tg_do; rw [hg3, eact, k5, if_neg (by omega), h4]
                          have ego : tg_go t g = tg_wind t g3 1 := by unfold tg_go; rw [epre, ← ha, if_neg (by omega), edo]
                          have k1 : g3 1 = g1 1 := by rw [← edo]; exact tg_do_k (by omega) e2 (by omega) (by omega) (by omega) (by omega) (by omega)
                          have hP : va_P D vwCl [(z 0, .inr (8, [.ref (z 1), .int (nI ty), .ref (z 2), .ref (z 3), .ref (z 4), .ref (z 5), .int (nI kn), .ref (z 6), .ref (z 7), .ref (z 8), .int (nI no), .int (nI at_), .int (nI so), .int (nI sr), .int (nI va), .ref (z 9)])), (z 2, .inl (k.1 0, 23, .inl (ta_e t))), (z 4, .inl (k.1 0, 66, .inl (ta_e g3)))] H := hP
                          have hD : va_D A [(z 0, .inr (8, [.ref (z 1), .int (nI ty), .ref (z 2), .ref (z 3), .ref (z 4), .ref (z 5), .int (nI kn), .ref (z 6), .ref (z 7), .ref (z 8), .int (nI no), .int (nI at_), .int (nI so), .int (nI sr), .int (nI va), .ref (z 9)])), (z 2, .inl (k.1 0, 23, .inl (ta_e t))), (z 4, .inl (k.1 0, 66, .inl (ta_e g3)))] := hD
                          refine lv_aload_n hx hb dX8_goes_174 rfl (lv_at hl 3 rfl) ?_
                          refine ta_get C hP 0 inlX8 rfl rfl 4 (by decide) tw_128 rfl dX8_goes_175 ?_
                          refine ta_iconst C 1 dX8_goes_178 (by decide) ?_
                          refine lv_dup2_11 hx hb dX8_goes_179 rfl rfl ?_
                          refine ta_iald C hP 2 rfl (i := 1) (by omega) dX8_goes_180 ?_
                          refine ta_iconst C 1 dX8_goes_181 (by decide) ?_
                          refine ta_iadd C (a := g3 1) (b := 1) dX8_goes_182 ?_
                          refine ta_iast C hP hD hS 2 rfl (i := 1) (v := (g3 1) + 1) (by omega) dX8_goes_183 (fun H locs hP hD hS => ?_)
                          have hP : va_P D vwCl [(z 0, .inr (8, [.ref (z 1), .int (nI ty), .ref (z 2), .ref (z 3), .ref (z 4), .ref (z 5), .int (nI kn), .ref (z 6), .ref (z 7), .ref (z 8), .int (nI no), .int (nI at_), .int (nI so), .int (nI sr), .int (nI va), .ref (z 9)])), (z 2, .inl (k.1 0, 23, .inl (ta_e t))), (z 4, .inl (k.1 0, 66, .inl (ta_e (ta_u g3 1 ((g3 1) + 1)))))] H := hP
                          have hD : va_D A [(z 0, .inr (8, [.ref (z 1), .int (nI ty), .ref (z 2), .ref (z 3), .ref (z 4), .ref (z 5), .int (nI kn), .ref (z 6), .ref (z 7), .ref (z 8), .int (nI no), .int (nI at_), .int (nI so), .int (nI sr), .int (nI va), .ref (z 9)])), (z 2, .inl (k.1 0, 23, .inl (ta_e t))), (z 4, .inl (k.1 0, 66, .inl (ta_e (ta_u g3 1 ((g3 1) + 1)))))] := hD
                          refine lv_aload_n hx hb dX8_goes_184 rfl (lv_at hl 3 rfl) ?_
                          refine ta_get C hP 0 inlX8 rfl rfl 4 (by decide) tw_128 rfl dX8_goes_185 ?_
                          refine ta_iconst C 1 dX8_goes_188 (by decide) ?_
                          refine ta_iald C hP 2 rfl (i := 1) (by omega) dX8_goes_189 ?_
                          refine ta_nv (y := (g3 1) + 1) ta_us ?_
                          refine lv_aload_n hx hb dX8_goes_190 rfl (lv_at hl 3 rfl) ?_
                          refine ta_get C hP 0 inlX8 rfl rfl 2 (by decide) tw_126 rfl dX8_goes_191 ?_
                          refine ta_iconst C 2 dX8_goes_194 (by decide) ?_
                          refine ta_iald C hP 1 rfl (i := 2) (by omega) dX8_goes_195 ?_
                          refine ta_cne C (a := (g3 1) + 1) (b := t 2) (tgt := 216) (by omega) (by omega) dX8_goes_196 (by decide) (fun c107 => ?_) (fun c107 => ?_)
                          · refine lv_iload_n hx hb dX8_goes_216 rfl (lv_at hl 1 rfl) ?_
                            have e : ta_u g3 1 ((g3 1) + 1) = tg_go t g := by rw [ego]; unfold tg_wind; rw [if_neg (by omega)]
                            have ekn : nI 4294967295 = nI (tg_kn g) := by unfold tg_kn; rw [epre, ← ha]; first | rw [if_pos (by omega)] | rw [if_neg (by omega)]
                            rw [e] at hP hD
                            exact ret _ () dX8_goes_217 rfl ekn hP hD hS
                          · refine lv_aload_n hx hb dX8_goes_199 rfl (lv_at hl 3 rfl) ?_
                            refine ta_get C hP 0 inlX8 rfl rfl 4 (by decide) tw_128 rfl dX8_goes_200 ?_
                            refine ta_iconst C 1 dX8_goes_203 (by decide) ?_
                            refine ta_iconst C 0 dX8_goes_204 (by decide) ?_
                            refine ta_iast C hP hD hS 2 rfl (i := 1) (v := 0) (by omega) dX8_goes_205 (fun H locs hP hD hS => ?_)
                            have hP : va_P D vwCl [(z 0, .inr (8, [.ref (z 1), .int (nI ty), .ref (z 2), .ref (z 3), .ref (z 4), .ref (z 5), .int (nI kn), .ref (z 6), .ref (z 7), .ref (z 8), .int (nI no), .int (nI at_), .int (nI so), .int (nI sr), .int (nI va), .ref (z 9)])), (z 2, .inl (k.1 0, 23, .inl (ta_e t))), (z 4, .inl (k.1 0, 66, .inl (ta_e (ta_u (ta_u g3 1 ((g3 1) + 1)) 1 0))))] H := hP
                            have hD : va_D A [(z 0, .inr (8, [.ref (z 1), .int (nI ty), .ref (z 2), .ref (z 3), .ref (z 4), .ref (z 5), .int (nI kn), .ref (z 6), .ref (z 7), .ref (z 8), .int (nI no), .int (nI at_), .int (nI so), .int (nI sr), .int (nI va), .ref (z 9)])), (z 2, .inl (k.1 0, 23, .inl (ta_e t))), (z 4, .inl (k.1 0, 66, .inl (ta_e (ta_u (ta_u g3 1 ((g3 1) + 1)) 1 0))))] := hD
                            refine lv_aload_n hx hb dX8_goes_206 rfl (lv_at hl 3 rfl) ?_
                            refine ta_get C hP 0 inlX8 rfl rfl 4 (by decide) tw_128 rfl dX8_goes_207 ?_
                            refine ta_iconst C 0 dX8_goes_210 (by decide) ?_
                            refine lv_dup2_11 hx hb dX8_goes_211 rfl rfl ?_
                            refine ta_iald C hP 2 rfl (i := 0) (by omega) dX8_goes_212 ?_
                            refine ta_nv (y := (ta_u g3 1 ((g3 1) + 1)) 0) (ta_un (by decide)) ?_
                            refine ta_nv (y := g3 0) (ta_un (by decide)) ?_
                            refine ta_iconst C 1 dX8_goes_213 (by decide) ?_
                            refine ta_iadd C (a := g3 0) (b := 1) dX8_goes_214 ?_
                            refine ta_iast C hP hD hS 2 rfl (i := 0) (v := (g3 0) + 1) (by omega) dX8_goes_215 (fun H locs hP hD hS => ?_)
                            have hP : va_P D vwCl [(z 0, .inr (8, [.ref (z 1), .int (nI ty), .ref (z 2), .ref (z 3), .ref (z 4), .ref (z 5), .int (nI kn), .ref (z 6), .ref (z 7), .ref (z 8), .int (nI no), .int (nI at_), .int (nI so), .int (nI sr), .int (nI va), .ref (z 9)])), (z 2, .inl (k.1 0, 23, .inl (ta_e t))), (z 4, .inl (k.1 0, 66, .inl (ta_e (ta_u (ta_u (ta_u g3 1 ((g3 1) + 1)) 1 0) 0 ((g3 0) + 1)))))] H := hP
                            have hD : va_D A [(z 0, .inr (8, [.ref (z 1), .int (nI ty), .ref (z 2), .ref (z 3), .ref (z 4), .ref (z 5), .int (nI kn), .ref (z 6), .ref (z 7), .ref (z 8), .int (nI no), .int (nI at_), .int (nI so), .int (nI sr), .int (nI va), .ref (z 9)])), (z 2, .inl (k.1 0, 23, .inl (ta_e t))), (z 4, .inl (k.1 0, 66, .inl (ta_e (ta_u (ta_u (ta_u g3 1 ((g3 1) + 1)) 1 0) 0 ((g3 0) + 1)))))] := hD
                            refine lv_iload_n hx hb dX8_goes_216 rfl (lv_at hl 1 rfl) ?_
                            have e : ta_u (ta_u (ta_u g3 1 ((g3 1) + 1)) 1 0) 0 ((g3 0) + 1) = tg_go t g := by rw [ego]; unfold tg_wind; rw [if_pos (by omega), ta_uu]
                            have ekn : nI 4294967295 = nI (tg_kn g) := by unfold tg_kn; rw [epre, ← ha]; first | rw [if_pos (by omega)] | rw [if_neg (by omega)]
                            rw [e] at hP hD
                            exact ret _ () dX8_goes_217 rfl ekn hP hD hS
                        · refine ta_iconst C 4294967295 dX8_goes_168 (by decide) ?_
                          refine lv_goto (tgt := 173) hx hb dX8_goes_169 (by decide) ?_
                          refine ta_iast C hP hD hS 2 rfl (i := 4) (v := 4294967295) (by omega) dX8_goes_173 (fun H locs hP hD hS => ?_)
                          have hP : va_P D vwCl [(z 0, .inr (8, [.ref (z 1), .int (nI ty), .ref (z 2), .ref (z 3), .ref (z 4), .ref (z 5), .int (nI kn), .ref (z 6), .ref (z 7), .ref (z 8), .int (nI no), .int (nI at_), .int (nI so), .int (nI sr), .int (nI va), .ref (z 9)])), (z 2, .inl (k.1 0, 23, .inl (ta_e t))), (z 4, .inl (k.1 0, 66, .inl (ta_e (ta_u (ta_u g2 5 ((g2 5) - 1)) 4 4294967295))))] H := hP
                          have hD : va_D A [(z 0, .inr (8, [.ref (z 1), .int (nI ty), .ref (z 2), .ref (z 3), .ref (z 4), .ref (z 5), .int (nI kn), .ref (z 6), .ref (z 7), .ref (z 8), .int (nI no), .int (nI at_), .int (nI so), .int (nI sr), .int (nI va), .ref (z 9)])), (z 2, .inl (k.1 0, 23, .inl (ta_e t))), (z 4, .inl (k.1 0, 66, .inl (ta_e (ta_u (ta_u g2 5 ((g2 5) - 1)) 4 4294967295))))] := hD
                          obtain ⟨g3, hg3⟩ : ∃ z, z = ta_u (ta_u g2 5 ((g2 5) - 1)) 4 4294967295 := ⟨_, rfl⟩
                          rw [← hg3] at hP hD
                          have edo : tg_do t g1 0 = g3 := by unfold tg_do; rw [hg3, eact, k5, if_pos (by omega)]
                          have ego : tg_go t g = tg_wind t g3 1 := by unfold tg_go; rw [epre, ← ha, if_neg (by omega), edo]
                          have k1 : g3 1 = g1 1 := by rw [← edo]; exact tg_do_k (by omega) e2 (by omega) (by omega) (by omega) (by omega) (by omega)
                          have hP : va_P D vwCl [(z 0, .inr (8, [.ref (z 1), .int (nI ty), .ref (z 2), .ref (z 3), .ref (z 4), .ref (z 5), .int (nI kn), .ref (z 6), .ref (z 7), .ref (z 8), .int (nI no), .int (nI at_), .int (nI so), .int (nI sr), .int (nI va), .ref (z 9)])), (z 2, .inl (k.1 0, 23, .inl (ta_e t))), (z 4, .inl (k.1 0, 66, .inl (ta_e g3)))] H := hP
                          have hD : va_D A [(z 0, .inr (8, [.ref (z 1), .int (nI ty), .ref (z 2), .ref (z 3), .ref (z 4), .ref (z 5), .int (nI kn), .ref (z 6), .ref (z 7), .ref (z 8), .int (nI no), .int (nI at_), .int (nI so), .int (nI sr), .int (nI va), .ref (z 9)])), (z 2, .inl (k.1 0, 23, .inl (ta_e t))), (z 4, .inl (k.1 0, 66, .inl (ta_e g3)))] := hD
                          refine lv_aload_n hx hb dX8_goes_174 rfl (lv_at hl 3 rfl) ?_
                          refine ta_get C hP 0 inlX8 rfl rfl 4 (by decide) tw_128 rfl dX8_goes_175 ?_
                          refine ta_iconst C 1 dX8_goes_178 (by decide) ?_
                          refine lv_dup2_11 hx hb dX8_goes_179 rfl rfl ?_
                          refine ta_iald C hP 2 rfl (i := 1) (by omega) dX8_goes_180 ?_
                          refine ta_iconst C 1 dX8_goes_181 (by decide) ?_
                          refine ta_iadd C (a := g3 1) (b := 1) dX8_goes_182 ?_
                          refine ta_iast C hP hD hS 2 rfl (i := 1) (v := (g3 1) + 1) (by omega) dX8_goes_183 (fun H locs hP hD hS => ?_)
                          have hP : va_P D vwCl [(z 0, .inr (8, [.ref (z 1), .int (nI ty), .ref (z 2), .ref (z 3), .ref (z 4), .ref (z 5), .int (nI kn), .ref (z 6), .ref (z 7), .ref (z 8), .int (nI no), .int (nI at_), .int (nI so), .int (nI sr), .int (nI va), .ref (z 9)])), (z 2, .inl (k.1 0, 23, .inl (ta_e t))), (z 4, .inl (k.1 0, 66, .inl (ta_e (ta_u g3 1 ((g3 1) + 1)))))] H := hP
                          have hD : va_D A [(z 0, .inr (8, [.ref (z 1), .int (nI ty), .ref (z 2), .ref (z 3), .ref (z 4), .ref (z 5), .int (nI kn), .ref (z 6), .ref (z 7), .ref (z 8), .int (nI no), .int (nI at_), .int (nI so), .int (nI sr), .int (nI va), .ref (z 9)])), (z 2, .inl (k.1 0, 23, .inl (ta_e t))), (z 4, .inl (k.1 0, 66, .inl (ta_e (ta_u g3 1 ((g3 1) + 1)))))] := hD
                          refine lv_aload_n hx hb dX8_goes_184 rfl (lv_at hl 3 rfl) ?_
                          refine ta_get C hP 0 inlX8 rfl rfl 4 (by decide) tw_128 rfl dX8_goes_185 ?_
                          refine ta_iconst C 1 dX8_goes_188 (by decide) ?_
                          refine ta_iald C hP 2 rfl (i := 1) (by omega) dX8_goes_189 ?_
                          refine ta_nv (y := (g3 1) + 1) ta_us ?_
                          refine lv_aload_n hx hb dX8_goes_190 rfl (lv_at hl 3 rfl) ?_
                          refine ta_get C hP 0 inlX8 rfl rfl 2 (by decide) tw_126 rfl dX8_goes_191 ?_
                          refine ta_iconst C 2 dX8_goes_194 (by decide) ?_
                          refine ta_iald C hP 1 rfl (i := 2) (by omega) dX8_goes_195 ?_
                          refine ta_cne C (a := (g3 1) + 1) (b := t 2) (tgt := 216) (by omega) (by omega) dX8_goes_196 (by decide) (fun c108 => ?_) (fun c108 => ?_)
                          · refine lv_iload_n hx hb dX8_goes_216 rfl (lv_at hl 1 rfl) ?_
                            have e : ta_u g3 1 ((g3 1) + 1) = tg_go t g := by rw [ego]; unfold tg_wind; rw [if_neg (by omega)]
                            have ekn : nI 4294967295 = nI (tg_kn g) := by unfold tg_kn; rw [epre, ← ha]; first | rw [if_pos (by omega)] | rw [if_neg (by omega)]
                            rw [e] at hP hD
                            exact ret _ () dX8_goes_217 rfl ekn hP hD hS
                          · refine lv_aload_n hx hb dX8_goes_199 rfl (lv_at hl 3 rfl) ?_
                            refine ta_get C hP 0 inlX8 rfl rfl 4 (by decide) tw_128 rfl dX8_goes_200 ?_
                            refine ta_iconst C 1 dX8_goes_203 (by decide) ?_
                            refine ta_iconst C 0 dX8_goes_204 (by decide) ?_
                            refine ta_iast C hP hD hS 2 rfl (i := 1) (v := 0) (by omega) dX8_goes_205 (fun H locs hP hD hS => ?_)
                            have hP : va_P D vwCl [(z 0, .inr (8, [.ref (z 1), .int (nI ty), .ref (z 2), .ref (z 3), .ref (z 4), .ref (z 5), .int (nI kn), .ref (z 6), .ref (z 7), .ref (z 8), .int (nI no), .int (nI at_), .int (nI so), .int (nI sr), .int (nI va), .ref (z 9)])), (z 2, .inl (k.1 0, 23, .inl (ta_e t))), (z 4, .inl (k.1 0, 66, .inl (ta_e (ta_u (ta_u g3 1 ((g3 1) + 1)) 1 0))))] H := hP
                            have hD : va_D A [(z 0, .inr (8, [.ref (z 1), .int (nI ty), .ref (z 2), .ref (z 3), .ref (z 4), .ref (z 5), .int (nI kn), .ref (z 6), .ref (z 7), .ref (z 8), .int (nI no), .int (nI at_), .int (nI so), .int (nI sr), .int (nI va), .ref (z 9)])), (z 2, .inl (k.1 0, 23, .inl (ta_e t))), (z 4, .inl (k.1 0, 66, .inl (ta_e (ta_u (ta_u g3 1 ((g3 1) + 1)) 1 0))))] := hD
                            refine lv_aload_n hx hb dX8_goes_206 rfl (lv_at hl 3 rfl) ?_
                            refine ta_get C hP 0 inlX8 rfl rfl 4 (by decide) tw_128 rfl dX8_goes_207 ?_
                            refine ta_iconst C 0 dX8_goes_210 (by decide) ?_
                            refine lv_dup2_11 hx hb dX8_goes_211 rfl rfl ?_
                            refine ta_iald C hP 2 rfl (i := 0) (by omega) dX8_goes_212 ?_
                            refine ta_nv (y := (ta_u g3 1 ((g3 1) + 1)) 0) (ta_un (by decide)) ?_
                            refine ta_nv (y := g3 0) (ta_un (by decide)) ?_
                            refine ta_iconst C 1 dX8_goes_213 (by decide) ?_
                            refine ta_iadd C (a := g3 0) (b := 1) dX8_goes_214 ?_
                            refine ta_iast C hP hD hS 2 rfl (i := 0) (v := (g3 0) + 1) (by omega) dX8_goes_215 (fun H locs hP hD hS => ?_)
                            have hP : va_P D vwCl [(z 0, .inr (8, [.ref (z 1), .int (nI ty), .ref (z 2), .ref (z 3), .ref (z 4), .ref (z 5), .int (nI kn), .ref (z 6), .ref (z 7), .ref (z 8), .int (nI no), .int (nI at_), .int (nI so), .int (nI sr), .int (nI va), .ref (z 9)])), (z 2, .inl (k.1 0, 23, .inl (ta_e t))), (z 4, .inl (k.1 0, 66, .inl (ta_e (ta_u (ta_u (ta_u g3 1 ((g3 1) + 1)) 1 0) 0 ((g3 0) + 1)))))] H := hP
                            have hD : va_D A [(z 0, .inr (8, [.ref (z 1), .int (nI ty), .ref (z 2), .ref (z 3), .ref (z 4), .ref (z 5), .int (nI kn), .ref (z 6), .ref (z 7), .ref (z 8), .int (nI no), .int (nI at_), .int (nI so), .int (nI sr), .int (nI va), .ref (z 9)])), (z 2, .inl (k.1 0, 23, .inl (ta_e t))), (z 4, .inl (k.1 0, 66, .inl (ta_e (ta_u (ta_u (ta_u g3 1 ((g3 1) + 1)) 1 0) 0 ((g3 0) + 1)))))] := hD
                            refine lv_iload_n hx hb dX8_goes_216 rfl (lv_at hl 1 rfl) ?_
                            have e : ta_u (ta_u (ta_u g3 1 ((g3 1) + 1)) 1 0) 0 ((g3 0) + 1) = tg_go t g := by rw [ego]; unfold tg_wind; rw [if_pos (by omega), ta_uu]
                            have ekn : nI 4294967295 = nI (tg_kn g) := by unfold tg_kn; rw [epre, ← ha]; first | rw [if_pos (by omega)] | rw [if_neg (by omega)]
                            rw [e] at hP hD
                            exact ret _ () dX8_goes_217 rfl ekn hP hD hS
                      · exact absurd c105 (by decide)
                    · exact absurd c104 (by decide)
                  · exact absurd c103 (by decide)
        · refine ta_nv (y := 3) h4 ?_
          refine lv_istore_n (lv' := [(3, .int (nI 3)), (2, .int (nI 4294967295)), (1, .int (nI 0)), (0, .ref (z 0))]) hx hb dX8_goes_44 rfl hl (by decide) rfl (fun ls hl => ?_)
          refine lv_iload_n hx hb dX8_goes_45 rfl (lv_at hl 0 rfl) ?_
          refine ta_iconst C 4294967295 dX8_goes_46 (by decide) ?_
          refine lv_icmp_eq (tgt := 174) hx hb dX8_goes_47 (by decide) (fun c109 => ?_) (fun c109 => ?_)
          · exact absurd c109 (by decide)
          · refine lv_iload_n hx hb dX8_goes_50 rfl (lv_at hl 0 rfl) ?_
            refine lv_if_eq (tgt := 59) hx hb dX8_goes_51 (by decide) (fun c110 => ?_) (fun c110 => ?_)
            · exact absurd c110 (by decide)
            · refine lv_iload_n hx hb dX8_goes_54 rfl (lv_at hl 0 rfl) ?_
              refine ta_iconst C 2 dX8_goes_55 (by decide) ?_
              refine lv_icmp_ne (tgt := 69) hx hb dX8_goes_56 (by decide) (fun c111 => ?_) (fun c111 => ?_)
              · refine lv_iload_n hx hb dX8_goes_69 rfl (lv_at hl 0 rfl) ?_
                refine ta_iconst C 2 dX8_goes_70 (by decide) ?_
                refine lv_icmp_ne (tgt := 84) hx hb dX8_goes_71 (by decide) (fun c112 => ?_) (fun c112 => ?_)
                · refine lv_iload_n hx hb dX8_goes_84 rfl (lv_at hl 0 rfl) ?_
                  refine ta_iconst C 1 dX8_goes_85 (by decide) ?_
                  refine lv_icmp_ne (tgt := 103) hx hb dX8_goes_86 (by decide) (fun c113 => ?_) (fun c113 => ?_)
                  · refine lv_iload_n hx hb dX8_goes_103 rfl (lv_at hl 0 rfl) ?_
                    refine ta_iconst C 3 dX8_goes_104 (by decide) ?_
                    refine lv_icmp_ne (tgt := 124) hx hb dX8_goes_105 (by decide) (fun c114 => ?_) (fun c114 => ?_)
                    · exact absurd c114 (by decide)
                    · refine lv_aload_n hx hb dX8_goes_108 rfl (lv_at hl 3 rfl) ?_
                      refine ta_get C hP 0 inlX8 rfl rfl 4 (by decide) tw_128 rfl dX8_goes_109 ?_
                      refine ta_iconst C 3 dX8_goes_112 (by decide) ?_
                      refine lv_aload_n hx hb dX8_goes_113 rfl (lv_at hl 3 rfl) ?_
                      refine ta_get C hP 0 inlX8 rfl rfl 4 (by decide) tw_128 rfl dX8_goes_114 ?_
                      refine ta_iconst C 3 dX8_goes_117 (by decide) ?_
                      refine ta_iald C hP 2 rfl (i := 3) (by omega) dX8_goes_118 ?_
                      refine ta_iconst C 1 dX8_goes_119 (by decide) ?_
                      refine ta_iadd C (a := g1 3) (b := 1) dX8_goes_120 ?_
                      refine ta_iconst C 4 dX8_goes_121 (by decide) ?_
                      refine ta_irem C (a := (g1 3) + 1) (b := 4) (by omega) (by omega) (by omega) dX8_goes_122 ?_
                      refine ta_iast C hP hD hS 2 rfl (i := 3) (v := ((g1 3) + 1) % 4) (by omega) dX8_goes_123 (fun H locs hP hD hS => ?_)
                      have hP : va_P D vwCl [(z 0, .inr (8, [.ref (z 1), .int (nI ty), .ref (z 2), .ref (z 3), .ref (z 4), .ref (z 5), .int (nI kn), .ref (z 6), .ref (z 7), .ref (z 8), .int (nI no), .int (nI at_), .int (nI so), .int (nI sr), .int (nI va), .ref (z 9)])), (z 2, .inl (k.1 0, 23, .inl (ta_e t))), (z 4, .inl (k.1 0, 66, .inl (ta_e (ta_u g1 3 (((g1 3) + 1) % 4)))))] H := hP
                      have hD : va_D A [(z 0, .inr (8, [.ref (z 1), .int (nI ty), .ref (z 2), .ref (z 3), .ref (z 4), .ref (z 5), .int (nI kn), .ref (z 6), .ref (z 7), .ref (z 8), .int (nI no), .int (nI at_), .int (nI so), .int (nI sr), .int (nI va), .ref (z 9)])), (z 2, .inl (k.1 0, 23, .inl (ta_e t))), (z 4, .inl (k.1 0, 66, .inl (ta_e (ta_u g1 3 (((g1 3) + 1) % 4)))))] := hD
                      refine lv_iload_n hx hb dX8_goes_124 rfl (lv_at hl 0 rfl) ?_
                      refine ta_iconst C 4 dX8_goes_125 (by decide) ?_
                      refine lv_icmp_ne (tgt := 144) hx hb dX8_goes_126 (by decide) (fun c115 => ?_) (fun c115 => ?_)
                      · obtain ⟨g2, hg2⟩ : ∃ z, z = ta_u g1 3 (((g1 3) + 1) % 4) := ⟨_, rfl⟩
                        rw [← hg2] at hP hD
                        have eact : tg_act t g1 0 = g2 := by rw [hg2]; unfold tg_act; rw [if_neg (by omega), if_neg (by omega), if_neg (by omega), if_pos h4]
                        have k5 : g2 5 = g1 5 := by rw [← eact]; exact tg_act_k (by omega) e2 (by omega) (by omega) (by omega)
                        have hP : va_P D vwCl [(z 0, .inr (8, [.ref (z 1), .int (nI ty), .ref (z 2), .ref (z 3), .ref (z 4), .ref (z 5), .int (nI kn), .ref (z 6), .ref (z 7), .ref (z 8), .int (nI no), .int (nI at_), .int (nI so), .int (nI sr), .int (nI va), .ref (z 9)])), (z 2, .inl (k.1 0, 23, .inl (ta_e t))), (z 4, .inl (k.1 0, 66, .inl (ta_e g2)))] H := hP
                        have hD : va_D A [(z 0, .inr (8, [.ref (z 1), .int (nI ty), .ref (z 2), .ref (z 3), .ref (z 4), .ref (z 5), .int (nI kn), .ref (z 6), .ref (z 7), .ref (z 8), .int (nI no), .int (nI at_), .int (nI so), .int (nI sr), .int (nI va), .ref (z 9)])), (z 2, .inl (k.1 0, 23, .inl (ta_e t))), (z 4, .inl (k.1 0, 66, .inl (ta_e g2)))] := hD
                        refine lv_aload_n hx hb dX8_goes_144 rfl (lv_at hl 3 rfl) ?_
                        refine ta_get C hP 0 inlX8 rfl rfl 4 (by decide) tw_128 rfl dX8_goes_145 ?_
                        refine ta_iconst C 5 dX8_goes_148 (by decide) ?_
                        refine lv_dup2_11 hx hb dX8_goes_149 rfl rfl ?_
                        refine ta_iald C hP 2 rfl (i := 5) (by omega) dX8_goes_150 ?_
                        refine ta_iconst C 1 dX8_goes_151 (by decide) ?_
                        refine ta_isub C (a := g2 5) (b := 1) (by omega) dX8_goes_152 ?_
                        refine ta_iast C hP hD hS 2 rfl (i := 5) (v := (g2 5) - 1) (by omega) dX8_goes_153 (fun H locs hP hD hS => ?_)
                        have hP : va_P D vwCl [(z 0, .inr (8, [.ref (z 1), .int (nI ty), .ref (z 2), .ref (z 3), .ref (z 4), .ref (z 5), .int (nI kn), .ref (z 6), .ref (z 7), .ref (z 8), .int (nI no), .int (nI at_), .int (nI so), .int (nI sr), .int (nI va), .ref (z 9)])), (z 2, .inl (k.1 0, 23, .inl (ta_e t))), (z 4, .inl (k.1 0, 66, .inl (ta_e (ta_u g2 5 ((g2 5) - 1)))))] H := hP
                        have hD : va_D A [(z 0, .inr (8, [.ref (z 1), .int (nI ty), .ref (z 2), .ref (z 3), .ref (z 4), .ref (z 5), .int (nI kn), .ref (z 6), .ref (z 7), .ref (z 8), .int (nI no), .int (nI at_), .int (nI so), .int (nI sr), .int (nI va), .ref (z 9)])), (z 2, .inl (k.1 0, 23, .inl (ta_e t))), (z 4, .inl (k.1 0, 66, .inl (ta_e (ta_u g2 5 ((g2 5) - 1)))))] := hD
                        refine lv_aload_n hx hb dX8_goes_154 rfl (lv_at hl 3 rfl) ?_
                        refine ta_get C hP 0 inlX8 rfl rfl 4 (by decide) tw_128 rfl dX8_goes_155 ?_
                        refine ta_iconst C 4 dX8_goes_158 (by decide) ?_
                        refine lv_aload_n hx hb dX8_goes_159 rfl (lv_at hl 3 rfl) ?_
                        refine ta_get C hP 0 inlX8 rfl rfl 4 (by decide) tw_128 rfl dX8_goes_160 ?_
                        refine ta_iconst C 5 dX8_goes_163 (by decide) ?_
                        refine ta_iald C hP 2 rfl (i := 5) (by omega) dX8_goes_164 ?_
                        refine ta_nv (y := (g2 5) - 1) ta_us ?_
                        refine ta_ine C (a := (g2 5) - 1) (tgt := 172) (by omega) dX8_goes_165 (by decide) (fun c116 => ?_) (fun c116 => ?_)
                        · refine lv_iload_n hx hb dX8_goes_172 rfl (lv_at hl 0 rfl) ?_
                          refine ta_iast C hP hD hS 2 rfl (i := 4) (v := 3) (by omega) dX8_goes_173 (fun H locs hP hD hS => ?_)
                          have hP : va_P D vwCl [(z 0, .inr (8, [.ref (z 1), .int (nI ty), .ref (z 2), .ref (z 3), .ref (z 4), .ref (z 5), .int (nI kn), .ref (z 6), .ref (z 7), .ref (z 8), .int (nI no), .int (nI at_), .int (nI so), .int (nI sr), .int (nI va), .ref (z 9)])), (z 2, .inl (k.1 0, 23, .inl (ta_e t))), (z 4, .inl (k.1 0, 66, .inl (ta_e (ta_u (ta_u g2 5 ((g2 5) - 1)) 4 3))))] H := hP
                          have hD : va_D A [(z 0, .inr (8, [.ref (z 1), .int (nI ty), .ref (z 2), .ref (z 3), .ref (z 4), .ref (z 5), .int (nI kn), .ref (z 6), .ref (z 7), .ref (z 8), .int (nI no), .int (nI at_), .int (nI so), .int (nI sr), .int (nI va), .ref (z 9)])), (z 2, .inl (k.1 0, 23, .inl (ta_e t))), (z 4, .inl (k.1 0, 66, .inl (ta_e (ta_u (ta_u g2 5 ((g2 5) - 1)) 4 3))))] := hD
                          obtain ⟨g3, hg3⟩ : ∃ z, z = ta_u (ta_u g2 5 ((g2 5) - 1)) 4 3 := ⟨_, rfl⟩
                          rw [← hg3] at hP hD
                          have edo : tg_do t g1 0 = g3 := by unfold tg_do; rw [hg3, eact, k5, if_neg (by omega), h4]
                          have ego : tg_go t g = tg_wind t g3 1 := by unfold tg_go; rw [epre, ← ha, if_neg (by omega), edo]
                          have k1 : g3 1 = g1 1 := by rw [← edo]; exact tg_do_k (by omega) e2 (by omega) (by omega) (by omega) (by omega) (by omega)
                          have hP : va_P D vwCl [(z 0, .inr (8, [.ref (z 1), .int (nI ty), .ref (z 2), .ref (z 3), .ref (z 4), .ref (z 5), .int (nI kn), .ref (z 6), .ref (z 7), .ref (z 8), .int (nI no), .int (nI at_), .int (nI so), .int (nI sr), .int (nI va), .ref (z 9)])), (z 2, .inl (k.1 0, 23, .inl (ta_e t))), (z 4, .inl (k.1 0, 66, .inl (ta_e g3)))] H := hP
                          have hD : va_D A [(z 0, .inr (8, [.ref (z 1), .int (nI ty), .ref (z 2), .ref (z 3), .ref (z 4), .ref (z 5), .int (nI kn), .ref (z 6), .ref (z 7), .ref (z 8), .int (nI no), .int (nI at_), .int (nI so), .int (nI sr), .int (nI va), .ref (z 9)])), (z 2, .inl (k.1 0, 23, .inl (ta_e t))), (z 4, .inl (k.1 0, 66, .inl (ta_e g3)))] := hD
                          refine lv_aload_n hx hb dX8_goes_174 rfl (lv_at hl 3 rfl) ?_
                          refine ta_get C hP 0 inlX8 rfl rfl 4 (by decide) tw_128 rfl dX8_goes_175 ?_
                          refine ta_iconst C 1 dX8_goes_178 (by decide) ?_
                          refine lv_dup2_11 hx hb dX8_goes_179 rfl rfl ?_
                          refine ta_iald C hP 2 rfl (i := 1) (by omega) dX8_goes_180 ?_
                          refine ta_iconst C 1 dX8_goes_181 (by decide) ?_
                          refine ta_iadd C (a := g3 1) (b := 1) dX8_goes_182 ?_
                          refine ta_iast C hP hD hS 2 rfl (i := 1) (v := (g3 1) + 1) (by omega) dX8_goes_183 (fun H locs hP hD hS => ?_)
                          have hP : va_P D vwCl [(z 0, .inr (8, [.ref (z 1), .int (nI ty), .ref (z 2), .ref (z 3), .ref (z 4), .ref (z 5), .int (nI kn), .ref (z 6), .ref (z 7), .ref (z 8), .int (nI no), .int (nI at_), .int (nI so), .int (nI sr), .int (nI va), .ref (z 9)])), (z 2, .inl (k.1 0, 23, .inl (ta_e t))), (z 4, .inl (k.1 0, 66, .inl (ta_e (ta_u g3 1 ((g3 1) + 1)))))] H := hP
                          have hD : va_D A [(z 0, .inr (8, [.ref (z 1), .int (nI ty), .ref (z 2), .ref (z 3), .ref (z 4), .ref (z 5), .int (nI kn), .ref (z 6), .ref (z 7), .ref (z 8), .int (nI no), .int (nI at_), .int (nI so), .int (nI sr), .int (nI va), .ref (z 9)])), (z 2, .inl (k.1 0, 23, .inl (ta_e t))), (z 4, .inl (k.1 0, 66, .inl (ta_e (ta_u g3 1 ((g3 1) + 1)))))] := hD
                          refine lv_aload_n hx hb dX8_goes_184 rfl (lv_at hl 3 rfl) ?_
                          refine ta_get C hP 0 inlX8 rfl rfl 4 (by decide) tw_128 rfl dX8_goes_185 ?_
                          refine ta_iconst C 1 dX8_goes_188 (by decide) ?_
                          refine ta_iald C hP 2 rfl (i := 1) (by omega) dX8_goes_189 ?_
                          refine ta_nv (y := (g3 1) + 1) ta_us ?_
                          refine lv_aload_n hx hb dX8_goes_190 rfl (lv_at hl 3 rfl) ?_
                          refine ta_get C hP 0 inlX8 rfl rfl 2 (by decide) tw_126 rfl dX8_goes_191 ?_
                          refine ta_iconst C 2 dX8_goes_194 (by decide) ?_
                          refine ta_iald C hP 1 rfl (i := 2) (by omega) dX8_goes_195 ?_
                          refine ta_cne C (a := (g3 1) + 1) (b := t 2) (tgt := 216) (by omega) (by omega) dX8_goes_196 (by decide) (fun c117 => ?_) (fun c117 => ?_)
                          · refine lv_iload_n hx hb dX8_goes_216 rfl (lv_at hl 1 rfl) ?_
                            have e : ta_u g3 1 ((g3 1) + 1) = tg_go t g := by rw [ego]; unfold tg_wind; rw [if_neg (by omega)]
                            have ekn : nI 4294967295 = nI (tg_kn g) := by unfold tg_kn; rw [epre, ← ha]; first | rw [if_pos (by omega)] | rw [if_neg (by omega)]
                            rw [e] at hP hD
                            exact ret _ () dX8_goes_217 rfl ekn hP hD hS
                          · refine lv_aload_n hx hb dX8_goes_199 rfl (lv_at hl 3 rfl) ?_
                            refine ta_get C hP 0 inlX8 rfl rfl 4 (by decide) tw_128 rfl dX8_goes_200 ?_
                            refine ta_iconst C 1 dX8_goes_203 (by decide) ?_
                            refine ta_iconst C 0 dX8_goes_204 (by decide) ?_
                            refine ta_iast C hP hD hS 2 rfl (i := 1) (v := 0) (by omega) dX8_goes_205 (fun H locs hP hD hS => ?_)
                            have hP : va_P D vwCl [(z 0, .inr (8, [.ref (z 1), .int (nI ty), .ref (z 2), .ref (z 3), .ref (z 4), .ref (z 5), .int (nI kn), .ref (z 6), .ref (z 7), .ref (z 8), .int (nI no), .int (nI at_), .int (nI so), .int (nI sr), .int (nI va), .ref (z 9)])), (z 2, .inl (k.1 0, 23, .inl (ta_e t))), (z 4, .inl (k.1 0, 66, .inl (ta_e (ta_u (ta_u g3 1 ((g3 1) + 1)) 1 0))))] H := hP
                            have hD : va_D A [(z 0, .inr (8, [.ref (z 1), .int (nI ty), .ref (z 2), .ref (z 3), .ref (z 4), .ref (z 5), .int (nI kn), .ref (z 6), .ref (z 7), .ref (z 8), .int (nI no), .int (nI at_), .int (nI so), .int (nI sr), .int (nI va), .ref (z 9)])), (z 2, .inl (k.1 0, 23, .inl (ta_e t))), (z 4, .inl (k.1 0, 66, .inl (ta_e (ta_u (ta_u g3 1 ((g3 1) + 1)) 1 0))))] := hD
                            refine lv_aload_n hx hb dX8_goes_206 rfl (lv_at hl 3 rfl) ?_
                            refine ta_get C hP 0 inlX8 rfl rfl 4 (by decide) tw_128 rfl dX8_goes_207 ?_
                            refine ta_iconst C 0 dX8_goes_210 (by decide) ?_
                            refine lv_dup2_11 hx hb dX8_goes_211 rfl rfl ?_
                            refine ta_iald C hP 2 rfl (i := 0) (by omega) dX8_goes_212 ?_
                            refine ta_nv (y := (ta_u g3 1 ((g3 1) + 1)) 0) (ta_un (by decide)) ?_
                            refine ta_nv (y := g3 0) (ta_un (by decide)) ?_
                            refine ta_iconst C 1 dX8_goes_213 (by decide) ?_
                            refine ta_iadd C (a := g3 0) (b := 1) dX8_goes_214 ?_
                            refine ta_iast C hP hD hS 2 rfl (i := 0) (v := (g3 0) + 1) (by omega) dX8_goes_215 (fun H locs hP hD hS => ?_)
                            have hP : va_P D vwCl [(z 0, .inr (8, [.ref (z 1), .int (nI ty), .ref (z 2), .ref (z 3), .ref (z 4), .ref (z 5), .int (nI kn), .ref (z 6), .ref (z 7), .ref (z 8), .int (nI no), .int (nI at_), .int (nI so), .int (nI sr), .int (nI va), .ref (z 9)])), (z 2, .inl (k.1 0, 23, .inl (ta_e t))), (z 4, .inl (k.1 0, 66, .inl (ta_e (ta_u (ta_u (ta_u g3 1 ((g3 1) + 1)) 1 0) 0 ((g3 0) + 1)))))] H := hP
                            have hD : va_D A [(z 0, .inr (8, [.ref (z 1), .int (nI ty), .ref (z 2), .ref (z 3), .ref (z 4), .ref (z 5), .int (nI kn), .ref (z 6), .ref (z 7), .ref (z 8), .int (nI no), .int (nI at_), .int (nI so), .int (nI sr), .int (nI va), .ref (z 9)])), (z 2, .inl (k.1 0, 23, .inl (ta_e t))), (z 4, .inl (k.1 0, 66, .inl (ta_e (ta_u (ta_u (ta_u g3 1 ((g3 1) + 1)) 1 0) 0 ((g3 0) + 1)))))] := hD
                            refine lv_iload_n hx hb dX8_goes_216 rfl (lv_at hl 1 rfl) ?_
                            have e : ta_u (ta_u (ta_u g3 1 ((g3 1) + 1)) 1 0) 0 ((g3 0) + 1) = tg_go t g := by rw [ego]; unfold tg_wind; rw [if_pos (by omega), ta_uu]
                            have ekn : nI 4294967295 = nI (tg_kn g) := by unfold tg_kn; rw [epre, ← ha]; first | rw [if_pos (by omega)] | rw [if_neg (by omega)]
                            rw [e] at hP hD
                            exact ret _ () dX8_goes_217 rfl ekn hP hD hS
                        · refine ta_iconst C 4294967295 dX8_goes_168 (by decide) ?_
                          refine lv_goto (tgt := 173) hx hb dX8_goes_169 (by decide) ?_
                          refine ta_iast C hP hD hS 2 rfl (i := 4) (v := 4294967295) (by omega) dX8_goes_173 (fun H locs hP hD hS => ?_)
                          have hP : va_P D vwCl [(z 0, .inr (8, [.ref (z 1), .int (nI ty), .ref (z 2), .ref (z 3), .ref (z 4), .ref (z 5), .int (nI kn), .ref (z 6), .ref (z 7), .ref (z 8), .int (nI no), .int (nI at_), .int (nI so), .int (nI sr), .int (nI va), .ref (z 9)])), (z 2, .inl (k.1 0, 23, .inl (ta_e t))), (z 4, .inl (k.1 0, 66, .inl (ta_e (ta_u (ta_u g2 5 ((g2 5) - 1)) 4 4294967295))))] H := hP
                          have hD : va_D A [(z 0, .inr (8, [.ref (z 1), .int (nI ty), .ref (z 2), .ref (z 3), .ref (z 4), .ref (z 5), .int (nI kn), .ref (z 6), .ref (z 7), .ref (z 8), .int (nI no), .int (nI at_), .int (nI so), .int (nI sr), .int (nI va), .ref (z 9)])), (z 2, .inl (k.1 0, 23, .inl (ta_e t))), (z 4, .inl (k.1 0, 66, .inl (ta_e (ta_u (ta_u g2 5 ((g2 5) - 1)) 4 4294967295))))] := hD
                          obtain ⟨g3, hg3⟩ : ∃ z, z = ta_u (ta_u g2 5 ((g2 5) - 1)) 4 4294967295 := ⟨_, rfl⟩
                          rw [← hg3] at hP hD
                          have edo : tg_do t g1 0 = g3 := by unfold tg_do; rw [hg3, eact, k5, if_pos (by omega)]
                          have ego : tg_go t g = tg_wind t g3 1 := by unfold tg_go; rw [epre, ← ha, if_neg (by omega), edo]
                          have k1 : g3 1 = g1 1 := by rw [← edo]; exact tg_do_k (by omega) e2 (by omega) (by omega) (by omega) (by omega) (by omega)
                          have hP : va_P D vwCl [(z 0, .inr (8, [.ref (z 1), .int (nI ty), .ref (z 2), .ref (z 3), .ref (z 4), .ref (z 5), .int (nI kn), .ref (z 6), .ref (z 7), .ref (z 8), .int (nI no), .int (nI at_), .int (nI so), .int (nI sr), .int (nI va), .ref (z 9)])), (z 2, .inl (k.1 0, 23, .inl (ta_e t))), (z 4, .inl (k.1 0, 66, .inl (ta_e g3)))] H := hP
                          have hD : va_D A [(z 0, .inr (8, [.ref (z 1), .int (nI ty), .ref (z 2), .ref (z 3), .ref (z 4), .ref (z 5), .int (nI kn), .ref (z 6), .ref (z 7), .ref (z 8), .int (nI no), .int (nI at_), .int (nI so), .int (nI sr), .int (nI va), .ref (z 9)])), (z 2, .inl (k.1 0, 23, .inl (ta_e t))), (z 4, .inl (k.1 0, 66, .inl (ta_e g3)))] := hD
                          refine lv_aload_n hx hb dX8_goes_174 rfl (lv_at hl 3 rfl) ?_
                          refine ta_get C hP 0 inlX8 rfl rfl 4 (by decide) tw_128 rfl dX8_goes_175 ?_
                          refine ta_iconst C 1 dX8_goes_178 (by decide) ?_
                          refine lv_dup2_11 hx hb dX8_goes_179 rfl rfl ?_
                          refine ta_iald C hP 2 rfl (i := 1) (by omega) dX8_goes_180 ?_
                          refine ta_iconst C 1 dX8_goes_181 (by decide) ?_
                          refine ta_iadd C (a := g3 1) (b := 1) dX8_goes_182 ?_
                          refine ta_iast C hP hD hS 2 rfl (i := 1) (v := (g3 1) + 1) (by omega) dX8_goes_183 (fun H locs hP hD hS => ?_)
                          have hP : va_P D vwCl [(z 0, .inr (8, [.ref (z 1), .int (nI ty), .ref (z 2), .ref (z 3), .ref (z 4), .ref (z 5), .int (nI kn), .ref (z 6), .ref (z 7), .ref (z 8), .int (nI no), .int (nI at_), .int (nI so), .int (nI sr), .int (nI va), .ref (z 9)])), (z 2, .inl (k.1 0, 23, .inl (ta_e t))), (z 4, .inl (k.1 0, 66, .inl (ta_e (ta_u g3 1 ((g3 1) + 1)))))] H := hP
                          have hD : va_D A [(z 0, .inr (8, [.ref (z 1), .int (nI ty), .ref (z 2), .ref (z 3), .ref (z 4), .ref (z 5), .int (nI kn), .ref (z 6), .ref (z 7), .ref (z 8), .int (nI no), .int (nI at_), .int (nI so), .int (nI sr), .int (nI va), .ref (z 9)])), (z 2, .inl (k.1 0, 23, .inl (ta_e t))), (z 4, .inl (k.1 0, 66, .inl (ta_e (ta_u g3 1 ((g3 1) + 1)))))] := hD
                          refine lv_aload_n hx hb dX8_goes_184 rfl (lv_at hl 3 rfl) ?_
                          refine ta_get C hP 0 inlX8 rfl rfl 4 (by decide) tw_128 rfl dX8_goes_185 ?_
                          refine ta_iconst C 1 dX8_goes_188 (by decide) ?_
                          refine ta_iald C hP 2 rfl (i := 1) (by omega) dX8_goes_189 ?_
                          refine ta_nv (y := (g3 1) + 1) ta_us ?_
                          refine lv_aload_n hx hb dX8_goes_190 rfl (lv_at hl 3 rfl) ?_
                          refine ta_get C hP 0 inlX8 rfl rfl 2 (by decide) tw_126 rfl dX8_goes_191 ?_
                          refine ta_iconst C 2 dX8_goes_194 (by decide) ?_
                          refine ta_iald C hP 1 rfl (i := 2) (by omega) dX8_goes_195 ?_
                          refine ta_cne C (a := (g3 1) + 1) (b := t 2) (tgt := 216) (by omega) (by omega) dX8_goes_196 (by decide) (fun c118 => ?_) (fun c118 => ?_)
                          · refine lv_iload_n hx hb dX8_goes_216 rfl (lv_at hl 1 rfl) ?_
                            have e : ta_u g3 1 ((g3 1) + 1) = tg_go t g := by rw [ego]; unfold tg_wind; rw [if_neg (by omega)]
                            have ekn : nI 4294967295 = nI (tg_kn g) := by unfold tg_kn; rw [epre, ← ha]; first | rw [if_pos (by omega)] | rw [if_neg (by omega)]
                            rw [e] at hP hD
                            exact ret _ () dX8_goes_217 rfl ekn hP hD hS
                          · refine lv_aload_n hx hb dX8_goes_199 rfl (lv_at hl 3 rfl) ?_
                            refine ta_get C hP 0 inlX8 rfl rfl 4 (by decide) tw_128 rfl dX8_goes_200 ?_
                            refine ta_iconst C 1 dX8_goes_203 (by decide) ?_
                            refine ta_iconst C 0 dX8_goes_204 (by decide) ?_
                            refine ta_iast C hP hD hS 2 rfl (i := 1) (v := 0) (by omega) dX8_goes_205 (fun H locs hP hD hS => ?_)
                            have hP : va_P D vwCl [(z 0, .inr (8, [.ref (z 1), .int (nI ty), .ref (z 2), .ref (z 3), .ref (z 4), .ref (z 5), .int (nI kn), .ref (z 6), .ref (z 7), .ref (z 8), .int (nI no), .int (nI at_), .int (nI so), .int (nI sr), .int (nI va), .ref (z 9)])), (z 2, .inl (k.1 0, 23, .inl (ta_e t))), (z 4, .inl (k.1 0, 66, .inl (ta_e (ta_u (ta_u g3 1 ((g3 1) + 1)) 1 0))))] H := hP
                            have hD : va_D A [(z 0, .inr (8, [.ref (z 1), .int (nI ty), .ref (z 2), .ref (z 3), .ref (z 4), .ref (z 5), .int (nI kn), .ref (z 6), .ref (z 7), .ref (z 8), .int (nI no), .int (nI at_), .int (nI so), .int (nI sr), .int (nI va), .ref (z 9)])), (z 2, .inl (k.1 0, 23, .inl (ta_e t))), (z 4, .inl (k.1 0, 66, .inl (ta_e (ta_u (ta_u g3 1 ((g3 1) + 1)) 1 0))))] := hD
                            refine lv_aload_n hx hb dX8_goes_206 rfl (lv_at hl 3 rfl) ?_
                            refine ta_get C hP 0 inlX8 rfl rfl 4 (by decide) tw_128 rfl dX8_goes_207 ?_
                            refine ta_iconst C 0 dX8_goes_210 (by decide) ?_
                            refine lv_dup2_11 hx hb dX8_goes_211 rfl rfl ?_
                            refine ta_iald C hP 2 rfl (i := 0) (by omega) dX8_goes_212 ?_
                            refine ta_nv (y := (ta_u g3 1 ((g3 1) + 1)) 0) (ta_un (by decide)) ?_
                            refine ta_nv (y := g3 0) (ta_un (by decide)) ?_
                            refine ta_iconst C 1 dX8_goes_213 (by decide) ?_
                            refine ta_iadd C (a := g3 0) (b := 1) dX8_goes_214 ?_
                            refine ta_iast C hP hD hS 2 rfl (i := 0) (v := (g3 0) + 1) (by omega) dX8_goes_215 (fun H locs hP hD hS => ?_)
                            have hP : va_P D vwCl [(z 0, .inr (8, [.ref (z 1), .int (nI ty), .ref (z 2), .ref (z 3), .ref (z 4), .ref (z 5), .int (nI kn), .ref (z 6), .ref (z 7), .ref (z 8), .int (nI no), .int (nI at_), .int (nI so), .int (nI sr), .int (nI va), .ref (z 9)])), (z 2, .inl (k.1 0, 23, .inl (ta_e t))), (z 4, .inl (k.1 0, 66, .inl (ta_e (ta_u (ta_u (ta_u g3 1 ((g3 1) + 1)) 1 0) 0 ((g3 0) + 1)))))] H := hP
                            have hD : va_D A [(z 0, .inr (8, [.ref (z 1), .int (nI ty), .ref (z 2), .ref (z 3), .ref (z 4), .ref (z 5), .int (nI kn), .ref (z 6), .ref (z 7), .ref (z 8), .int (nI no), .int (nI at_), .int (nI so), .int (nI sr), .int (nI va), .ref (z 9)])), (z 2, .inl (k.1 0, 23, .inl (ta_e t))), (z 4, .inl (k.1 0, 66, .inl (ta_e (ta_u (ta_u (ta_u g3 1 ((g3 1) + 1)) 1 0) 0 ((g3 0) + 1)))))] := hD
                            refine lv_iload_n hx hb dX8_goes_216 rfl (lv_at hl 1 rfl) ?_
                            have e : ta_u (ta_u (ta_u g3 1 ((g3 1) + 1)) 1 0) 0 ((g3 0) + 1) = tg_go t g := by rw [ego]; unfold tg_wind; rw [if_pos (by omega), ta_uu]
                            have ekn : nI 4294967295 = nI (tg_kn g) := by unfold tg_kn; rw [epre, ← ha]; first | rw [if_pos (by omega)] | rw [if_neg (by omega)]
                            rw [e] at hP hD
                            exact ret _ () dX8_goes_217 rfl ekn hP hD hS
                      · exact absurd c115 (by decide)
                  · exact absurd c113 (by decide)
                · exact absurd c112 (by decide)
              · exact absurd c111 (by decide)
        · refine ta_nv (y := 4) h4 ?_
          refine lv_istore_n (lv' := [(3, .int (nI 4)), (2, .int (nI 4294967295)), (1, .int (nI 0)), (0, .ref (z 0))]) hx hb dX8_goes_44 rfl hl (by decide) rfl (fun ls hl => ?_)
          refine lv_iload_n hx hb dX8_goes_45 rfl (lv_at hl 0 rfl) ?_
          refine ta_iconst C 4294967295 dX8_goes_46 (by decide) ?_
          refine lv_icmp_eq (tgt := 174) hx hb dX8_goes_47 (by decide) (fun c119 => ?_) (fun c119 => ?_)
          · exact absurd c119 (by decide)
          · refine lv_iload_n hx hb dX8_goes_50 rfl (lv_at hl 0 rfl) ?_
            refine lv_if_eq (tgt := 59) hx hb dX8_goes_51 (by decide) (fun c120 => ?_) (fun c120 => ?_)
            · exact absurd c120 (by decide)
            · refine lv_iload_n hx hb dX8_goes_54 rfl (lv_at hl 0 rfl) ?_
              refine ta_iconst C 2 dX8_goes_55 (by decide) ?_
              refine lv_icmp_ne (tgt := 69) hx hb dX8_goes_56 (by decide) (fun c121 => ?_) (fun c121 => ?_)
              · refine lv_iload_n hx hb dX8_goes_69 rfl (lv_at hl 0 rfl) ?_
                refine ta_iconst C 2 dX8_goes_70 (by decide) ?_
                refine lv_icmp_ne (tgt := 84) hx hb dX8_goes_71 (by decide) (fun c122 => ?_) (fun c122 => ?_)
                · refine lv_iload_n hx hb dX8_goes_84 rfl (lv_at hl 0 rfl) ?_
                  refine ta_iconst C 1 dX8_goes_85 (by decide) ?_
                  refine lv_icmp_ne (tgt := 103) hx hb dX8_goes_86 (by decide) (fun c123 => ?_) (fun c123 => ?_)
                  · refine lv_iload_n hx hb dX8_goes_103 rfl (lv_at hl 0 rfl) ?_
                    refine ta_iconst C 3 dX8_goes_104 (by decide) ?_
                    refine lv_icmp_ne (tgt := 124) hx hb dX8_goes_105 (by decide) (fun c124 => ?_) (fun c124 => ?_)
                    · refine lv_iload_n hx hb dX8_goes_124 rfl (lv_at hl 0 rfl) ?_
                      refine ta_iconst C 4 dX8_goes_125 (by decide) ?_
                      refine lv_icmp_ne (tgt := 144) hx hb dX8_goes_126 (by decide) (fun c125 => ?_) (fun c125 => ?_)
                      · exact absurd c125 (by decide)
                      · refine lv_aload_n hx hb dX8_goes_129 rfl (lv_at hl 3 rfl) ?_
                        refine ta_get C hP 0 inlX8 rfl rfl 4 (by decide) tw_128 rfl dX8_goes_130 ?_
                        refine ta_bipush C 24 dX8_goes_133 (by decide) ?_
                        refine lv_iload_n hx hb dX8_goes_135 rfl (lv_at hl 2 rfl) ?_
                        refine ta_iadd C (a := 24) (b := 0) dX8_goes_136 ?_
                        refine lv_dup2_11 hx hb dX8_goes_137 rfl rfl ?_
                        refine ta_iald C hP 2 rfl (i := 24) (by omega) dX8_goes_138 ?_
                        refine ta_iconst C 1 dX8_goes_139 (by decide) ?_
                        refine ta_iadd C (a := g1 24) (b := 1) dX8_goes_140 ?_
                        refine ta_iast C hP hD hS 2 rfl (i := 24) (v := (g1 24) + 1) (by omega) dX8_goes_141 (fun H locs hP hD hS => ?_)
                        have hP : va_P D vwCl [(z 0, .inr (8, [.ref (z 1), .int (nI ty), .ref (z 2), .ref (z 3), .ref (z 4), .ref (z 5), .int (nI kn), .ref (z 6), .ref (z 7), .ref (z 8), .int (nI no), .int (nI at_), .int (nI so), .int (nI sr), .int (nI va), .ref (z 9)])), (z 2, .inl (k.1 0, 23, .inl (ta_e t))), (z 4, .inl (k.1 0, 66, .inl (ta_e (ta_u g1 24 ((g1 24) + 1)))))] H := hP
                        have hD : va_D A [(z 0, .inr (8, [.ref (z 1), .int (nI ty), .ref (z 2), .ref (z 3), .ref (z 4), .ref (z 5), .int (nI kn), .ref (z 6), .ref (z 7), .ref (z 8), .int (nI no), .int (nI at_), .int (nI so), .int (nI sr), .int (nI va), .ref (z 9)])), (z 2, .inl (k.1 0, 23, .inl (ta_e t))), (z 4, .inl (k.1 0, 66, .inl (ta_e (ta_u g1 24 ((g1 24) + 1)))))] := hD
                        refine lv_iload_n hx hb dX8_goes_142 rfl (lv_at hl 2 rfl) ?_
                        refine lv_istore_n (lv' := [(2, .int (nI 0)), (3, .int (nI 4)), (1, .int (nI 0)), (0, .ref (z 0))]) hx hb dX8_goes_143 rfl hl (by decide) rfl (fun ls hl => ?_)
                        obtain ⟨g2, hg2⟩ : ∃ z, z = ta_u g1 24 ((g1 24) + 1) := ⟨_, rfl⟩
                        rw [← hg2] at hP hD
                        have eact : tg_act t g1 0 = g2 := by rw [hg2]; unfold tg_act; rw [if_neg (by omega), if_neg (by omega), if_neg (by omega), if_neg (by omega)]
                        have k5 : g2 5 = g1 5 := by rw [← eact]; exact tg_act_k (by omega) e2 (by omega) (by omega) (by omega)
                        have hP : va_P D vwCl [(z 0, .inr (8, [.ref (z 1), .int (nI ty), .ref (z 2), .ref (z 3), .ref (z 4), .ref (z 5), .int (nI kn), .ref (z 6), .ref (z 7), .ref (z 8), .int (nI no), .int (nI at_), .int (nI so), .int (nI sr), .int (nI va), .ref (z 9)])), (z 2, .inl (k.1 0, 23, .inl (ta_e t))), (z 4, .inl (k.1 0, 66, .inl (ta_e g2)))] H := hP
                        have hD : va_D A [(z 0, .inr (8, [.ref (z 1), .int (nI ty), .ref (z 2), .ref (z 3), .ref (z 4), .ref (z 5), .int (nI kn), .ref (z 6), .ref (z 7), .ref (z 8), .int (nI no), .int (nI at_), .int (nI so), .int (nI sr), .int (nI va), .ref (z 9)])), (z 2, .inl (k.1 0, 23, .inl (ta_e t))), (z 4, .inl (k.1 0, 66, .inl (ta_e g2)))] := hD
                        refine lv_aload_n hx hb dX8_goes_144 rfl (lv_at hl 3 rfl) ?_
                        refine ta_get C hP 0 inlX8 rfl rfl 4 (by decide) tw_128 rfl dX8_goes_145 ?_
                        refine ta_iconst C 5 dX8_goes_148 (by decide) ?_
                        refine lv_dup2_11 hx hb dX8_goes_149 rfl rfl ?_
                        refine ta_iald C hP 2 rfl (i := 5) (by omega) dX8_goes_150 ?_
                        refine ta_iconst C 1 dX8_goes_151 (by decide) ?_
                        refine ta_isub C (a := g2 5) (b := 1) (by omega) dX8_goes_152 ?_
                        refine ta_iast C hP hD hS 2 rfl (i := 5) (v := (g2 5) - 1) (by omega) dX8_goes_153 (fun H locs hP hD hS => ?_)
                        have hP : va_P D vwCl [(z 0, .inr (8, [.ref (z 1), .int (nI ty), .ref (z 2), .ref (z 3), .ref (z 4), .ref (z 5), .int (nI kn), .ref (z 6), .ref (z 7), .ref (z 8), .int (nI no), .int (nI at_), .int (nI so), .int (nI sr), .int (nI va), .ref (z 9)])), (z 2, .inl (k.1 0, 23, .inl (ta_e t))), (z 4, .inl (k.1 0, 66, .inl (ta_e (ta_u g2 5 ((g2 5) - 1)))))] H := hP
                        have hD : va_D A [(z 0, .inr (8, [.ref (z 1), .int (nI ty), .ref (z 2), .ref (z 3), .ref (z 4), .ref (z 5), .int (nI kn), .ref (z 6), .ref (z 7), .ref (z 8), .int (nI no), .int (nI at_), .int (nI so), .int (nI sr), .int (nI va), .ref (z 9)])), (z 2, .inl (k.1 0, 23, .inl (ta_e t))), (z 4, .inl (k.1 0, 66, .inl (ta_e (ta_u g2 5 ((g2 5) - 1)))))] := hD
                        refine lv_aload_n hx hb dX8_goes_154 rfl (lv_at hl 3 rfl) ?_
                        refine ta_get C hP 0 inlX8 rfl rfl 4 (by decide) tw_128 rfl dX8_goes_155 ?_
                        refine ta_iconst C 4 dX8_goes_158 (by decide) ?_
                        refine lv_aload_n hx hb dX8_goes_159 rfl (lv_at hl 3 rfl) ?_
                        refine ta_get C hP 0 inlX8 rfl rfl 4 (by decide) tw_128 rfl dX8_goes_160 ?_
                        refine ta_iconst C 5 dX8_goes_163 (by decide) ?_
                        refine ta_iald C hP 2 rfl (i := 5) (by omega) dX8_goes_164 ?_
                        refine ta_nv (y := (g2 5) - 1) ta_us ?_
                        refine ta_ine C (a := (g2 5) - 1) (tgt := 172) (by omega) dX8_goes_165 (by decide) (fun c126 => ?_) (fun c126 => ?_)
                        · refine lv_iload_n hx hb dX8_goes_172 rfl (lv_at hl 1 rfl) ?_
                          refine ta_iast C hP hD hS 2 rfl (i := 4) (v := 4) (by omega) dX8_goes_173 (fun H locs hP hD hS => ?_)
                          have hP : va_P D vwCl [(z 0, .inr (8, [.ref (z 1), .int (nI ty), .ref (z 2), .ref (z 3), .ref (z 4), .ref (z 5), .int (nI kn), .ref (z 6), .ref (z 7), .ref (z 8), .int (nI no), .int (nI at_), .int (nI so), .int (nI sr), .int (nI va), .ref (z 9)])), (z 2, .inl (k.1 0, 23, .inl (ta_e t))), (z 4, .inl (k.1 0, 66, .inl (ta_e (ta_u (ta_u g2 5 ((g2 5) - 1)) 4 4))))] H := hP
                          have hD : va_D A [(z 0, .inr (8, [.ref (z 1), .int (nI ty), .ref (z 2), .ref (z 3), .ref (z 4), .ref (z 5), .int (nI kn), .ref (z 6), .ref (z 7), .ref (z 8), .int (nI no), .int (nI at_), .int (nI so), .int (nI sr), .int (nI va), .ref (z 9)])), (z 2, .inl (k.1 0, 23, .inl (ta_e t))), (z 4, .inl (k.1 0, 66, .inl (ta_e (ta_u (ta_u g2 5 ((g2 5) - 1)) 4 4))))] := hD
                          obtain ⟨g3, hg3⟩ : ∃ z, z = ta_u (ta_u g2 5 ((g2 5) - 1)) 4 4 := ⟨_, rfl⟩
                          rw [← hg3] at hP hD
                          have edo : tg_do t g1 0 = g3 := by unfold tg_do; rw [hg3, eact, k5, if_neg (by omega), h4]
                          have ego : tg_go t g = tg_wind t g3 1 := by unfold tg_go; rw [epre, ← ha, if_neg (by omega), edo]
                          have k1 : g3 1 = g1 1 := by rw [← edo]; exact tg_do_k (by omega) e2 (by omega) (by omega) (by omega) (by omega) (by omega)
                          have hP : va_P D vwCl [(z 0, .inr (8, [.ref (z 1), .int (nI ty), .ref (z 2), .ref (z 3), .ref (z 4), .ref (z 5), .int (nI kn), .ref (z 6), .ref (z 7), .ref (z 8), .int (nI no), .int (nI at_), .int (nI so), .int (nI sr), .int (nI va), .ref (z 9)])), (z 2, .inl (k.1 0, 23, .inl (ta_e t))), (z 4, .inl (k.1 0, 66, .inl (ta_e g3)))] H := hP
                          have hD : va_D A [(z 0, .inr (8, [.ref (z 1), .int (nI ty), .ref (z 2), .ref (z 3), .ref (z 4), .ref (z 5), .int (nI kn), .ref (z 6), .ref (z 7), .ref (z 8), .int (nI no), .int (nI at_), .int (nI so), .int (nI sr), .int (nI va), .ref (z 9)])), (z 2, .inl (k.1 0, 23, .inl (ta_e t))), (z 4, .inl (k.1 0, 66, .inl (ta_e g3)))] := hD
                          refine lv_aload_n hx hb dX8_goes_174 rfl (lv_at hl 3 rfl) ?_
                          refine ta_get C hP 0 inlX8 rfl rfl 4 (by decide) tw_128 rfl dX8_goes_175 ?_
                          refine ta_iconst C 1 dX8_goes_178 (by decide) ?_
                          refine lv_dup2_11 hx hb dX8_goes_179 rfl rfl ?_
                          refine ta_iald C hP 2 rfl (i := 1) (by omega) dX8_goes_180 ?_
                          refine ta_iconst C 1 dX8_goes_181 (by decide) ?_
                          refine ta_iadd C (a := g3 1) (b := 1) dX8_goes_182 ?_
                          refine ta_iast C hP hD hS 2 rfl (i := 1) (v := (g3 1) + 1) (by omega) dX8_goes_183 (fun H locs hP hD hS => ?_)
                          have hP : va_P D vwCl [(z 0, .inr (8, [.ref (z 1), .int (nI ty), .ref (z 2), .ref (z 3), .ref (z 4), .ref (z 5), .int (nI kn), .ref (z 6), .ref (z 7), .ref (z 8), .int (nI no), .int (nI at_), .int (nI so), .int (nI sr), .int (nI va), .ref (z 9)])), (z 2, .inl (k.1 0, 23, .inl (ta_e t))), (z 4, .inl (k.1 0, 66, .inl (ta_e (ta_u g3 1 ((g3 1) + 1)))))] H := hP
                          have hD : va_D A [(z 0, .inr (8, [.ref (z 1), .int (nI ty), .ref (z 2), .ref (z 3), .ref (z 4), .ref (z 5), .int (nI kn), .ref (z 6), .ref (z 7), .ref (z 8), .int (nI no), .int (nI at_), .int (nI so), .int (nI sr), .int (nI va), .ref (z 9)])), (z 2, .inl (k.1 0, 23, .inl (ta_e t))), (z 4, .inl (k.1 0, 66, .inl (ta_e (ta_u g3 1 ((g3 1) + 1)))))] := hD
                          refine lv_aload_n hx hb dX8_goes_184 rfl (lv_at hl 3 rfl) ?_
                          refine ta_get C hP 0 inlX8 rfl rfl 4 (by decide) tw_128 rfl dX8_goes_185 ?_
                          refine ta_iconst C 1 dX8_goes_188 (by decide) ?_
                          refine ta_iald C hP 2 rfl (i := 1) (by omega) dX8_goes_189 ?_
                          refine ta_nv (y := (g3 1) + 1) ta_us ?_
                          refine lv_aload_n hx hb dX8_goes_190 rfl (lv_at hl 3 rfl) ?_
                          refine ta_get C hP 0 inlX8 rfl rfl 2 (by decide) tw_126 rfl dX8_goes_191 ?_
                          refine ta_iconst C 2 dX8_goes_194 (by decide) ?_
                          refine ta_iald C hP 1 rfl (i := 2) (by omega) dX8_goes_195 ?_
                          refine ta_cne C (a := (g3 1) + 1) (b := t 2) (tgt := 216) (by omega) (by omega) dX8_goes_196 (by decide) (fun c127 => ?_) (fun c127 => ?_)
                          · refine lv_iload_n hx hb dX8_goes_216 rfl (lv_at hl 0 rfl) ?_
                            have e : ta_u g3 1 ((g3 1) + 1) = tg_go t g := by rw [ego]; unfold tg_wind; rw [if_neg (by omega)]
                            have ekn : nI 0 = nI (tg_kn g) := by unfold tg_kn; rw [epre, ← ha]; first | rw [if_pos (by omega)] | rw [if_neg (by omega)]
                            rw [e] at hP hD
                            exact ret _ () dX8_goes_217 rfl ekn hP hD hS
                          · refine lv_aload_n hx hb dX8_goes_199 rfl (lv_at hl 3 rfl) ?_
                            refine ta_get C hP 0 inlX8 rfl rfl 4 (by decide) tw_128 rfl dX8_goes_200 ?_
                            refine ta_iconst C 1 dX8_goes_203 (by decide) ?_
                            refine ta_iconst C 0 dX8_goes_204 (by decide) ?_
                            refine ta_iast C hP hD hS 2 rfl (i := 1) (v := 0) (by omega) dX8_goes_205 (fun H locs hP hD hS => ?_)
                            have hP : va_P D vwCl [(z 0, .inr (8, [.ref (z 1), .int (nI ty), .ref (z 2), .ref (z 3), .ref (z 4), .ref (z 5), .int (nI kn), .ref (z 6), .ref (z 7), .ref (z 8), .int (nI no), .int (nI at_), .int (nI so), .int (nI sr), .int (nI va), .ref (z 9)])), (z 2, .inl (k.1 0, 23, .inl (ta_e t))), (z 4, .inl (k.1 0, 66, .inl (ta_e (ta_u (ta_u g3 1 ((g3 1) + 1)) 1 0))))] H := hP
                            have hD : va_D A [(z 0, .inr (8, [.ref (z 1), .int (nI ty), .ref (z 2), .ref (z 3), .ref (z 4), .ref (z 5), .int (nI kn), .ref (z 6), .ref (z 7), .ref (z 8), .int (nI no), .int (nI at_), .int (nI so), .int (nI sr), .int (nI va), .ref (z 9)])), (z 2, .inl (k.1 0, 23, .inl (ta_e t))), (z 4, .inl (k.1 0, 66, .inl (ta_e (ta_u (ta_u g3 1 ((g3 1) + 1)) 1 0))))] := hD
                            refine lv_aload_n hx hb dX8_goes_206 rfl (lv_at hl 3 rfl) ?_
                            refine ta_get C hP 0 inlX8 rfl rfl 4 (by decide) tw_128 rfl dX8_goes_207 ?_
                            refine ta_iconst C 0 dX8_goes_210 (by decide) ?_
                            refine lv_dup2_11 hx hb dX8_goes_211 rfl rfl ?_
                            refine ta_iald C hP 2 rfl (i := 0) (by omega) dX8_goes_212 ?_
                            refine ta_nv (y := (ta_u g3 1 ((g3 1) + 1)) 0) (ta_un (by decide)) ?_
                            refine ta_nv (y := g3 0) (ta_un (by decide)) ?_
                            refine ta_iconst C 1 dX8_goes_213 (by decide) ?_
                            refine ta_iadd C (a := g3 0) (b := 1) dX8_goes_214 ?_
                            refine ta_iast C hP hD hS 2 rfl (i := 0) (v := (g3 0) + 1) (by omega) dX8_goes_215 (fun H locs hP hD hS => ?_)
                            have hP : va_P D vwCl [(z 0, .inr (8, [.ref (z 1), .int (nI ty), .ref (z 2), .ref (z 3), .ref (z 4), .ref (z 5), .int (nI kn), .ref (z 6), .ref (z 7), .ref (z 8), .int (nI no), .int (nI at_), .int (nI so), .int (nI sr), .int (nI va), .ref (z 9)])), (z 2, .inl (k.1 0, 23, .inl (ta_e t))), (z 4, .inl (k.1 0, 66, .inl (ta_e (ta_u (ta_u (ta_u g3 1 ((g3 1) + 1)) 1 0) 0 ((g3 0) + 1)))))] H := hP
                            have hD : va_D A [(z 0, .inr (8, [.ref (z 1), .int (nI ty), .ref (z 2), .ref (z 3), .ref (z 4), .ref (z 5), .int (nI kn), .ref (z 6), .ref (z 7), .ref (z 8), .int (nI no), .int (nI at_), .int (nI so), .int (nI sr), .int (nI va), .ref (z 9)])), (z 2, .inl (k.1 0, 23, .inl (ta_e t))), (z 4, .inl (k.1 0, 66, .inl (ta_e (ta_u (ta_u (ta_u g3 1 ((g3 1) + 1)) 1 0) 0 ((g3 0) + 1)))))] := hD
                            refine lv_iload_n hx hb dX8_goes_216 rfl (lv_at hl 0 rfl) ?_
                            have e : ta_u (ta_u (ta_u g3 1 ((g3 1) + 1)) 1 0) 0 ((g3 0) + 1) = tg_go t g := by rw [ego]; unfold tg_wind; rw [if_pos (by omega), ta_uu]
                            have ekn : nI 0 = nI (tg_kn g) := by unfold tg_kn; rw [epre, ← ha]; first | rw [if_pos (by omega)] | rw [if_neg (by omega)]
                            rw [e] at hP hD
                            exact ret _ () dX8_goes_217 rfl ekn hP hD hS
                        · refine ta_iconst C 4294967295 dX8_goes_168 (by decide) ?_
                          refine lv_goto (tgt := 173) hx hb dX8_goes_169 (by decide) ?_
                          refine ta_iast C hP hD hS 2 rfl (i := 4) (v := 4294967295) (by omega) dX8_goes_173 (fun H locs hP hD hS => ?_)
                          have hP : va_P D vwCl [(z 0, .inr (8, [.ref (z 1), .int (nI ty), .ref (z 2), .ref (z 3), .ref (z 4), .ref (z 5), .int (nI kn), .ref (z 6), .ref (z 7), .ref (z 8), .int (nI no), .int (nI at_), .int (nI so), .int (nI sr), .int (nI va), .ref (z 9)])), (z 2, .inl (k.1 0, 23, .inl (ta_e t))), (z 4, .inl (k.1 0, 66, .inl (ta_e (ta_u (ta_u g2 5 ((g2 5) - 1)) 4 4294967295))))] H := hP
                          have hD : va_D A [(z 0, .inr (8, [.ref (z 1), .int (nI ty), .ref (z 2), .ref (z 3), .ref (z 4), .ref (z 5), .int (nI kn), .ref (z 6), .ref (z 7), .ref (z 8), .int (nI no), .int (nI at_), .int (nI so), .int (nI sr), .int (nI va), .ref (z 9)])), (z 2, .inl (k.1 0, 23, .inl (ta_e t))), (z 4, .inl (k.1 0, 66, .inl (ta_e (ta_u (ta_u g2 5 ((g2 5) - 1)) 4 4294967295))))] := hD
                          obtain ⟨g3, hg3⟩ : ∃ z, z = ta_u (ta_u g2 5 ((g2 5) - 1)) 4 4294967295 := ⟨_, rfl⟩
                          rw [← hg3] at hP hD
                          have edo : tg_do t g1 0 = g3 := by unfold tg_do; rw [hg3, eact, k5, if_pos (by omega)]
                          have ego : tg_go t g = tg_wind t g3 1 := by unfold tg_go; rw [epre, ← ha, if_neg (by omega), edo]
                          have k1 : g3 1 = g1 1 := by rw [← edo]; exact tg_do_k (by omega) e2 (by omega) (by omega) (by omega) (by omega) (by omega)
                          have hP : va_P D vwCl [(z 0, .inr (8, [.ref (z 1), .int (nI ty), .ref (z 2), .ref (z 3), .ref (z 4), .ref (z 5), .int (nI kn), .ref (z 6), .ref (z 7), .ref (z 8), .int (nI no), .int (nI at_), .int (nI so), .int (nI sr), .int (nI va), .ref (z 9)])), (z 2, .inl (k.1 0, 23, .inl (ta_e t))), (z 4, .inl (k.1 0, 66, .inl (ta_e g3)))] H := hP
                          have hD : va_D A [(z 0, .inr (8, [.ref (z 1), .int (nI ty), .ref (z 2), .ref (z 3), .ref (z 4), .ref (z 5), .int (nI kn), .ref (z 6), .ref (z 7), .ref (z 8), .int (nI no), .int (nI at_), .int (nI so), .int (nI sr), .int (nI va), .ref (z 9)])), (z 2, .inl (k.1 0, 23, .inl (ta_e t))), (z 4, .inl (k.1 0, 66, .inl (ta_e g3)))] := hD
                          refine lv_aload_n hx hb dX8_goes_174 rfl (lv_at hl 3 rfl) ?_
                          refine ta_get C hP 0 inlX8 rfl rfl 4 (by decide) tw_128 rfl dX8_goes_175 ?_
                          refine ta_iconst C 1 dX8_goes_178 (by decide) ?_
                          refine lv_dup2_11 hx hb dX8_goes_179 rfl rfl ?_
                          refine ta_iald C hP 2 rfl (i := 1) (by omega) dX8_goes_180 ?_
                          refine ta_iconst C 1 dX8_goes_181 (by decide) ?_
                          refine ta_iadd C (a := g3 1) (b := 1) dX8_goes_182 ?_
                          refine ta_iast C hP hD hS 2 rfl (i := 1) (v := (g3 1) + 1) (by omega) dX8_goes_183 (fun H locs hP hD hS => ?_)
                          have hP : va_P D vwCl [(z 0, .inr (8, [.ref (z 1), .int (nI ty), .ref (z 2), .ref (z 3), .ref (z 4), .ref (z 5), .int (nI kn), .ref (z 6), .ref (z 7), .ref (z 8), .int (nI no), .int (nI at_), .int (nI so), .int (nI sr), .int (nI va), .ref (z 9)])), (z 2, .inl (k.1 0, 23, .inl (ta_e t))), (z 4, .inl (k.1 0, 66, .inl (ta_e (ta_u g3 1 ((g3 1) + 1)))))] H := hP
                          have hD : va_D A [(z 0, .inr (8, [.ref (z 1), .int (nI ty), .ref (z 2), .ref (z 3), .ref (z 4), .ref (z 5), .int (nI kn), .ref (z 6), .ref (z 7), .ref (z 8), .int (nI no), .int (nI at_), .int (nI so), .int (nI sr), .int (nI va), .ref (z 9)])), (z 2, .inl (k.1 0, 23, .inl (ta_e t))), (z 4, .inl (k.1 0, 66, .inl (ta_e (ta_u g3 1 ((g3 1) + 1)))))] := hD
                          refine lv_aload_n hx hb dX8_goes_184 rfl (lv_at hl 3 rfl) ?_
                          refine ta_get C hP 0 inlX8 rfl rfl 4 (by decide) tw_128 rfl dX8_goes_185 ?_
                          refine ta_iconst C 1 dX8_goes_188 (by decide) ?_
                          refine ta_iald C hP 2 rfl (i := 1) (by omega) dX8_goes_189 ?_
                          refine ta_nv (y := (g3 1) + 1) ta_us ?_
                          refine lv_aload_n hx hb dX8_goes_190 rfl (lv_at hl 3 rfl) ?_
                          refine ta_get C hP 0 inlX8 rfl rfl 2 (by decide) tw_126 rfl dX8_goes_191 ?_
                          refine ta_iconst C 2 dX8_goes_194 (by decide) ?_
                          refine ta_iald C hP 1 rfl (i := 2) (by omega) dX8_goes_195 ?_
                          refine ta_cne C (a := (g3 1) + 1) (b := t 2) (tgt := 216) (by omega) (by omega) dX8_goes_196 (by decide) (fun c128 => ?_) (fun c128 => ?_)
                          · refine lv_iload_n hx hb dX8_goes_216 rfl (lv_at hl 0 rfl) ?_
                            have e : ta_u g3 1 ((g3 1) + 1) = tg_go t g := by rw [ego]; unfold tg_wind; rw [if_neg (by omega)]
                            have ekn : nI 0 = nI (tg_kn g) := by unfold tg_kn; rw [epre, ← ha]; first | rw [if_pos (by omega)] | rw [if_neg (by omega)]
                            rw [e] at hP hD
                            exact ret _ () dX8_goes_217 rfl ekn hP hD hS
                          · refine lv_aload_n hx hb dX8_goes_199 rfl (lv_at hl 3 rfl) ?_
                            refine ta_get C hP 0 inlX8 rfl rfl 4 (by decide) tw_128 rfl dX8_goes_200 ?_
                            refine ta_iconst C 1 dX8_goes_203 (by decide) ?_
                            refine ta_iconst C 0 dX8_goes_204 (by decide) ?_
                            refine ta_iast C hP hD hS 2 rfl (i := 1) (v := 0) (by omega) dX8_goes_205 (fun H locs hP hD hS => ?_)
                            have hP : va_P D vwCl [(z 0, .inr (8, [.ref (z 1), .int (nI ty), .ref (z 2), .ref (z 3), .ref (z 4), .ref (z 5), .int (nI kn), .ref (z 6), .ref (z 7), .ref (z 8), .int (nI no), .int (nI at_), .int (nI so), .int (nI sr), .int (nI va), .ref (z 9)])), (z 2, .inl (k.1 0, 23, .inl (ta_e t))), (z 4, .inl (k.1 0, 66, .inl (ta_e (ta_u (ta_u g3 1 ((g3 1) + 1)) 1 0))))] H := hP
                            have hD : va_D A [(z 0, .inr (8, [.ref (z 1), .int (nI ty), .ref (z 2), .ref (z 3), .ref (z 4), .ref (z 5), .int (nI kn), .ref (z 6), .ref (z 7), .ref (z 8), .int (nI no), .int (nI at_), .int (nI so), .int (nI sr), .int (nI va), .ref (z 9)])), (z 2, .inl (k.1 0, 23, .inl (ta_e t))), (z 4, .inl (k.1 0, 66, .inl (ta_e (ta_u (ta_u g3 1 ((g3 1) + 1)) 1 0))))] := hD
                            refine lv_aload_n hx hb dX8_goes_206 rfl (lv_at hl 3 rfl) ?_
                            refine ta_get C hP 0 inlX8 rfl rfl 4 (by decide) tw_128 rfl dX8_goes_207 ?_
                            refine ta_iconst C 0 dX8_goes_210 (by decide) ?_
                            refine lv_dup2_11 hx hb dX8_goes_211 rfl rfl ?_
                            refine ta_iald C hP 2 rfl (i := 0) (by omega) dX8_goes_212 ?_
                            refine ta_nv (y := (ta_u g3 1 ((g3 1) + 1)) 0) (ta_un (by decide)) ?_
                            refine ta_nv (y := g3 0) (ta_un (by decide)) ?_
                            refine ta_iconst C 1 dX8_goes_213 (by decide) ?_
                            refine ta_iadd C (a := g3 0) (b := 1) dX8_goes_214 ?_
                            refine ta_iast C hP hD hS 2 rfl (i := 0) (v := (g3 0) + 1) (by omega) dX8_goes_215 (fun H locs hP hD hS => ?_)
                            have hP : va_P D vwCl [(z 0, .inr (8, [.ref (z 1), .int (nI ty), .ref (z 2), .ref (z 3), .ref (z 4), .ref (z 5), .int (nI kn), .ref (z 6), .ref (z 7), .ref (z 8), .int (nI no), .int (nI at_), .int (nI so), .int (nI sr), .int (nI va), .ref (z 9)])), (z 2, .inl (k.1 0, 23, .inl (ta_e t))), (z 4, .inl (k.1 0, 66, .inl (ta_e (ta_u (ta_u (ta_u g3 1 ((g3 1) + 1)) 1 0) 0 ((g3 0) + 1)))))] H := hP
                            have hD : va_D A [(z 0, .inr (8, [.ref (z 1), .int (nI ty), .ref (z 2), .ref (z 3), .ref (z 4), .ref (z 5), .int (nI kn), .ref (z 6), .ref (z 7), .ref (z 8), .int (nI no), .int (nI at_), .int (nI so), .int (nI sr), .int (nI va), .ref (z 9)])), (z 2, .inl (k.1 0, 23, .inl (ta_e t))), (z 4, .inl (k.1 0, 66, .inl (ta_e (ta_u (ta_u (ta_u g3 1 ((g3 1) + 1)) 1 0) 0 ((g3 0) + 1)))))] := hD
                            refine lv_iload_n hx hb dX8_goes_216 rfl (lv_at hl 0 rfl) ?_
                            have e : ta_u (ta_u (ta_u g3 1 ((g3 1) + 1)) 1 0) 0 ((g3 0) + 1) = tg_go t g := by rw [ego]; unfold tg_wind; rw [if_pos (by omega), ta_uu]
                            have ekn : nI 0 = nI (tg_kn g) := by unfold tg_kn; rw [epre, ← ha]; first | rw [if_pos (by omega)] | rw [if_neg (by omega)]
                            rw [e] at hP hD
                            exact ret _ () dX8_goes_217 rfl ekn hP hD hS
                    · exact absurd c124 (by decide)
                  · exact absurd c123 (by decide)
                · exact absurd c122 (by decide)
              · exact absurd c121 (by decide)
      · refine lv_aload_n hx hb dX8_goes_33 rfl (lv_at hl 2 rfl) ?_
        refine lv_iload_n hx hb dX8_goes_34 rfl (lv_at hl 1 rfl) ?_
        refine ta_callVv (As := [.int (nI 0)]) (rest0 := []) (Wr := [(z 2, .inl (k.1 0, 23, .inl (ta_e t)))]) C hP hD hS (c_X8_begins l D k z ty kn no at_ so sr va g 0 (by omega) (show 0 < g 6 by omega) b6 (b8 0 (by omega)).1) 0 rfl rfl rfl [0, 2] [1] rfl rfl (by decide) (by decide) (by decide) tw_485 tw_482 tw_5 tw_483 tw_484 ⟨by decide, by decide, rfl⟩ ⟨Nat.le_of_ble_eq_true rfl, Nat.le_of_ble_eq_true rfl⟩ ⟨Nat.zero_le _, Nat.zero_le _⟩ hl.1 rfl (Nat.le_of_ble_eq_true rfl) dX8_goes_35 (fun u130 H locs h131 hP hD hS => ?_)
        have hP : va_P D vwCl [(z 2, .inl (k.1 0, 23, .inl (ta_e t))), (z 0, .inr (8, [.ref (z 1), .int (nI ty), .ref (z 2), .ref (z 3), .ref (z 4), .ref (z 5), .int (nI kn), .ref (z 6), .ref (z 7), .ref (z 8), .int (nI no), .int (nI at_), .int (nI so), .int (nI sr), .int (nI va), .ref (z 9)])), (z 4, .inl (k.1 0, 66, .inl (ta_e (tg_begin g 0))))] H := hP
        have hD : va_D A [(z 2, .inl (k.1 0, 23, .inl (ta_e t))), (z 0, .inr (8, [.ref (z 1), .int (nI ty), .ref (z 2), .ref (z 3), .ref (z 4), .ref (z 5), .int (nI kn), .ref (z 6), .ref (z 7), .ref (z 8), .int (nI no), .int (nI at_), .int (nI so), .int (nI sr), .int (nI va), .ref (z 9)])), (z 4, .inl (k.1 0, 66, .inl (ta_e (tg_begin g 0))))] := hD
        have hP : va_P D vwCl [(z 0, .inr (8, [.ref (z 1), .int (nI ty), .ref (z 2), .ref (z 3), .ref (z 4), .ref (z 5), .int (nI kn), .ref (z 6), .ref (z 7), .ref (z 8), .int (nI no), .int (nI at_), .int (nI so), .int (nI sr), .int (nI va), .ref (z 9)])), (z 2, .inl (k.1 0, 23, .inl (ta_e t))), (z 4, .inl (k.1 0, 66, .inl (ta_e (tg_begin g 0))))] H := hP.sub [1, 0, 2] rfl
        have hD : va_D A [(z 0, .inr (8, [.ref (z 1), .int (nI ty), .ref (z 2), .ref (z 3), .ref (z 4), .ref (z 5), .int (nI kn), .ref (z 6), .ref (z 7), .ref (z 8), .int (nI no), .int (nI at_), .int (nI so), .int (nI sr), .int (nI va), .ref (z 9)])), (z 2, .inl (k.1 0, 23, .inl (ta_e t))), (z 4, .inl (k.1 0, 66, .inl (ta_e (tg_begin g 0))))] := hD.sub [1, 0, 2] (by decide) rfl
        obtain ⟨g1, hg1⟩ : ∃ z, z = tg_begin g 0 := ⟨_, rfl⟩
        have epre : tg_pre g = g1 := by rw [hg1]; unfold tg_pre; rw [← ha]; exact if_pos ⟨by omega, show 0 < g 6 by omega⟩
        have hok1 : tg_ok t g1 := by rw [hg1]; exact tg_ok_begin hok (by omega) (show 0 < g 6 by omega)
        have g10 : g1 0 = g 0 := by rw [hg1]; exact tg_begin_k (a := 0) (by omega) (by omega) (by omega) (by omega)
        rw [← hg1] at hP hD
        have hP : va_P D vwCl [(z 0, .inr (8, [.ref (z 1), .int (nI ty), .ref (z 2), .ref (z 3), .ref (z 4), .ref (z 5), .int (nI kn), .ref (z 6), .ref (z 7), .ref (z 8), .int (nI no), .int (nI at_), .int (nI so), .int (nI sr), .int (nI va), .ref (z 9)])), (z 2, .inl (k.1 0, 23, .inl (ta_e t))), (z 4, .inl (k.1 0, 66, .inl (ta_e g1)))] H := hP
        have hD : va_D A [(z 0, .inr (8, [.ref (z 1), .int (nI ty), .ref (z 2), .ref (z 3), .ref (z 4), .ref (z 5), .int (nI kn), .ref (z 6), .ref (z 7), .ref (z 8), .int (nI no), .int (nI at_), .int (nI so), .int (nI sr), .int (nI va), .ref (z 9)])), (z 2, .inl (k.1 0, 23, .inl (ta_e t))), (z 4, .inl (k.1 0, 66, .inl (ta_e g1)))] := hD
        obtain ⟨-, e1, e2, e3, e4, -⟩ := id hok1
        refine lv_aload_n hx hb dX8_goes_38 rfl (lv_at hl 2 rfl) ?_
        refine ta_get C hP 0 inlX8 rfl rfl 4 (by decide) tw_128 rfl dX8_goes_39 ?_
        refine ta_iconst C 4 dX8_goes_42 (by decide) ?_
        refine ta_iald C hP 2 rfl (i := 4) (by omega) dX8_goes_43 ?_
        rcases (show g1 4 = 4294967295 ∨ g1 4 = 0 ∨ g1 4 = 1 ∨ g1 4 = 2 ∨ g1 4 = 3 ∨ g1 4 = 4 by omega) with h4 | h4 | h4 | h4 | h4 | h4
        · refine ta_nv (y := 4294967295) h4 ?_
          refine lv_istore_n (lv' := [(3, .int (nI 4294967295)), (2, .int (nI 4294967295)), (1, .int (nI 0)), (0, .ref (z 0))]) hx hb dX8_goes_44 rfl hl (by decide) rfl (fun ls hl => ?_)
          refine lv_iload_n hx hb dX8_goes_45 rfl (lv_at hl 0 rfl) ?_
          refine ta_iconst C 4294967295 dX8_goes_46 (by decide) ?_
          refine lv_icmp_eq (tgt := 174) hx hb dX8_goes_47 (by decide) (fun c132 => ?_) (fun c132 => ?_)
          · obtain ⟨g3, hg3⟩ : ∃ z, z = g1 := ⟨_, rfl⟩
            rw [← hg3] at hP hD
            have ego : tg_go t g = tg_wind t g3 1 := by unfold tg_go; rw [epre, if_pos h4, hg3]
            have k1 : g3 1 = g1 1 := by rw [hg3]
            have hP : va_P D vwCl [(z 0, .inr (8, [.ref (z 1), .int (nI ty), .ref (z 2), .ref (z 3), .ref (z 4), .ref (z 5), .int (nI kn), .ref (z 6), .ref (z 7), .ref (z 8), .int (nI no), .int (nI at_), .int (nI so), .int (nI sr), .int (nI va), .ref (z 9)])), (z 2, .inl (k.1 0, 23, .inl (ta_e t))), (z 4, .inl (k.1 0, 66, .inl (ta_e g3)))] H := hP
            have hD : va_D A [(z 0, .inr (8, [.ref (z 1), .int (nI ty), .ref (z 2), .ref (z 3), .ref (z 4), .ref (z 5), .int (nI kn), .ref (z 6), .ref (z 7), .ref (z 8), .int (nI no), .int (nI at_), .int (nI so), .int (nI sr), .int (nI va), .ref (z 9)])), (z 2, .inl (k.1 0, 23, .inl (ta_e t))), (z 4, .inl (k.1 0, 66, .inl (ta_e g3)))] := hD
            refine lv_aload_n hx hb dX8_goes_174 rfl (lv_at hl 3 rfl) ?_
            refine ta_get C hP 0 inlX8 rfl rfl 4 (by decide) tw_128 rfl dX8_goes_175 ?_
            refine ta_iconst C 1 dX8_goes_178 (by decide) ?_
            refine lv_dup2_11 hx hb dX8_goes_179 rfl rfl ?_
            refine ta_iald C hP 2 rfl (i := 1) (by omega) dX8_goes_180 ?_
            refine ta_iconst C 1 dX8_goes_181 (by decide) ?_
            refine ta_iadd C (a := g3 1) (b := 1) dX8_goes_182 ?_
            refine ta_iast C hP hD hS 2 rfl (i := 1) (v := (g3 1) + 1) (by omega) dX8_goes_183 (fun H locs hP hD hS => ?_)
            have hP : va_P D vwCl [(z 0, .inr (8, [.ref (z 1), .int (nI ty), .ref (z 2), .ref (z 3), .ref (z 4), .ref (z 5), .int (nI kn), .ref (z 6), .ref (z 7), .ref (z 8), .int (nI no), .int (nI at_), .int (nI so), .int (nI sr), .int (nI va), .ref (z 9)])), (z 2, .inl (k.1 0, 23, .inl (ta_e t))), (z 4, .inl (k.1 0, 66, .inl (ta_e (ta_u g3 1 ((g3 1) + 1)))))] H := hP
            have hD : va_D A [(z 0, .inr (8, [.ref (z 1), .int (nI ty), .ref (z 2), .ref (z 3), .ref (z 4), .ref (z 5), .int (nI kn), .ref (z 6), .ref (z 7), .ref (z 8), .int (nI no), .int (nI at_), .int (nI so), .int (nI sr), .int (nI va), .ref (z 9)])), (z 2, .inl (k.1 0, 23, .inl (ta_e t))), (z 4, .inl (k.1 0, 66, .inl (ta_e (ta_u g3 1 ((g3 1) + 1)))))] := hD
            refine lv_aload_n hx hb dX8_goes_184 rfl (lv_at hl 3 rfl) ?_
            refine ta_get C hP 0 inlX8 rfl rfl 4 (by decide) tw_128 rfl dX8_goes_185 ?_
            refine ta_iconst C 1 dX8_goes_188 (by decide) ?_
            refine ta_iald C hP 2 rfl (i := 1) (by omega) dX8_goes_189 ?_
            refine ta_nv (y := (g3 1) + 1) ta_us ?_
            refine lv_aload_n hx hb dX8_goes_190 rfl (lv_at hl 3 rfl) ?_
            refine ta_get C hP 0 inlX8 rfl rfl 2 (by decide) tw_126 rfl dX8_goes_191 ?_
            refine ta_iconst C 2 dX8_goes_194 (by decide) ?_
            refine ta_iald C hP 1 rfl (i := 2) (by omega) dX8_goes_195 ?_
            refine ta_cne C (a := (g3 1) + 1) (b := t 2) (tgt := 216) (by omega) (by omega) dX8_goes_196 (by decide) (fun c133 => ?_) (fun c133 => ?_)
            · refine lv_iload_n hx hb dX8_goes_216 rfl (lv_at hl 1 rfl) ?_
              have e : ta_u g3 1 ((g3 1) + 1) = tg_go t g := by rw [ego]; unfold tg_wind; rw [if_neg (by omega)]
              have ekn : nI 4294967295 = nI (tg_kn g) := by unfold tg_kn; rw [epre, ← ha]; first | rw [if_pos (by omega)] | rw [if_neg (by omega)]
              rw [e] at hP hD
              exact ret _ () dX8_goes_217 rfl ekn hP hD hS
            · refine lv_aload_n hx hb dX8_goes_199 rfl (lv_at hl 3 rfl) ?_
              refine ta_get C hP 0 inlX8 rfl rfl 4 (by decide) tw_128 rfl dX8_goes_200 ?_
              refine ta_iconst C 1 dX8_goes_203 (by decide) ?_
              refine ta_iconst C 0 dX8_goes_204 (by decide) ?_
              refine ta_iast C hP hD hS 2 rfl (i := 1) (v := 0) (by omega) dX8_goes_205 (fun H locs hP hD hS => ?_)
              have hP : va_P D vwCl [(z 0, .inr (8, [.ref (z 1), .int (nI ty), .ref (z 2), .ref (z 3), .ref (z 4), .ref (z 5), .int (nI kn), .ref (z 6), .ref (z 7), .ref (z 8), .int (nI no), .int (nI at_), .int (nI so), .int (nI sr), .int (nI va), .ref (z 9)])), (z 2, .inl (k.1 0, 23, .inl (ta_e t))), (z 4, .inl (k.1 0, 66, .inl (ta_e (ta_u (ta_u g3 1 ((g3 1) + 1)) 1 0))))] H := hP
              have hD : va_D A [(z 0, .inr (8, [.ref (z 1), .int (nI ty), .ref (z 2), .ref (z 3), .ref (z 4), .ref (z 5), .int (nI kn), .ref (z 6), .ref (z 7), .ref (z 8), .int (nI no), .int (nI at_), .int (nI so), .int (nI sr), .int (nI va), .ref (z 9)])), (z 2, .inl (k.1 0, 23, .inl (ta_e t))), (z 4, .inl (k.1 0, 66, .inl (ta_e (ta_u (ta_u g3 1 ((g3 1) + 1)) 1 0))))] := hD
              refine lv_aload_n hx hb dX8_goes_206 rfl (lv_at hl 3 rfl) ?_
              refine ta_get C hP 0 inlX8 rfl rfl 4 (by decide) tw_128 rfl dX8_goes_207 ?_
              refine ta_iconst C 0 dX8_goes_210 (by decide) ?_
              refine lv_dup2_11 hx hb dX8_goes_211 rfl rfl ?_
              refine ta_iald C hP 2 rfl (i := 0) (by omega) dX8_goes_212 ?_
              refine ta_nv (y := (ta_u g3 1 ((g3 1) + 1)) 0) (ta_un (by decide)) ?_
              refine ta_nv (y := g3 0) (ta_un (by decide)) ?_
              refine ta_iconst C 1 dX8_goes_213 (by decide) ?_
              refine ta_iadd C (a := g3 0) (b := 1) dX8_goes_214 ?_
              refine ta_iast C hP hD hS 2 rfl (i := 0) (v := (g3 0) + 1) (by omega) dX8_goes_215 (fun H locs hP hD hS => ?_)
              have hP : va_P D vwCl [(z 0, .inr (8, [.ref (z 1), .int (nI ty), .ref (z 2), .ref (z 3), .ref (z 4), .ref (z 5), .int (nI kn), .ref (z 6), .ref (z 7), .ref (z 8), .int (nI no), .int (nI at_), .int (nI so), .int (nI sr), .int (nI va), .ref (z 9)])), (z 2, .inl (k.1 0, 23, .inl (ta_e t))), (z 4, .inl (k.1 0, 66, .inl (ta_e (ta_u (ta_u (ta_u g3 1 ((g3 1) + 1)) 1 0) 0 ((g3 0) + 1)))))] H := hP
              have hD : va_D A [(z 0, .inr (8, [.ref (z 1), .int (nI ty), .ref (z 2), .ref (z 3), .ref (z 4), .ref (z 5), .int (nI kn), .ref (z 6), .ref (z 7), .ref (z 8), .int (nI no), .int (nI at_), .int (nI so), .int (nI sr), .int (nI va), .ref (z 9)])), (z 2, .inl (k.1 0, 23, .inl (ta_e t))), (z 4, .inl (k.1 0, 66, .inl (ta_e (ta_u (ta_u (ta_u g3 1 ((g3 1) + 1)) 1 0) 0 ((g3 0) + 1)))))] := hD
              refine lv_iload_n hx hb dX8_goes_216 rfl (lv_at hl 1 rfl) ?_
              have e : ta_u (ta_u (ta_u g3 1 ((g3 1) + 1)) 1 0) 0 ((g3 0) + 1) = tg_go t g := by rw [ego]; unfold tg_wind; rw [if_pos (by omega), ta_uu]
              have ekn : nI 4294967295 = nI (tg_kn g) := by unfold tg_kn; rw [epre, ← ha]; first | rw [if_pos (by omega)] | rw [if_neg (by omega)]
              rw [e] at hP hD
              exact ret _ () dX8_goes_217 rfl ekn hP hD hS
          · exact absurd c132 (by decide)
        · refine ta_nv (y := 0) h4 ?_
          refine lv_istore_n (lv' := [(3, .int (nI 0)), (2, .int (nI 4294967295)), (1, .int (nI 0)), (0, .ref (z 0))]) hx hb dX8_goes_44 rfl hl (by decide) rfl (fun ls hl => ?_)
          refine lv_iload_n hx hb dX8_goes_45 rfl (lv_at hl 0 rfl) ?_
          refine ta_iconst C 4294967295 dX8_goes_46 (by decide) ?_
          refine lv_icmp_eq (tgt := 174) hx hb dX8_goes_47 (by decide) (fun c134 => ?_) (fun c134 => ?_)
          · exact absurd c134 (by decide)
          · refine lv_iload_n hx hb dX8_goes_50 rfl (lv_at hl 0 rfl) ?_
            refine lv_if_eq (tgt := 59) hx hb dX8_goes_51 (by decide) (fun c135 => ?_) (fun c135 => ?_)
            · refine lv_aload_n hx hb dX8_goes_59 rfl (lv_at hl 3 rfl) ?_
              refine lv_aload_n hx hb dX8_goes_60 rfl (lv_at hl 3 rfl) ?_
              refine ta_get C hP 0 inlX8 rfl rfl 4 (by decide) tw_128 rfl dX8_goes_61 ?_
              refine ta_iconst C 3 dX8_goes_64 (by decide) ?_
              refine ta_iald C hP 2 rfl (i := 3) (by omega) dX8_goes_65 ?_
              refine ta_callVv (As := [.int (nI (g1 3))]) (rest0 := []) (Wr := []) C hP hD hS (c_X8_steps l D k z ty kn no at_ so sr va t g1 (g1 3) hok1 e3) 0 rfl rfl rfl [0, 1, 2] [] rfl rfl (by decide) (by decide) (by decide) tw_489 tw_486 tw_5 tw_487 tw_488 ⟨by decide, by decide, rfl⟩ ⟨Nat.le_of_ble_eq_true rfl, Nat.le_of_ble_eq_true rfl⟩ ⟨Nat.zero_le _, Nat.zero_le _⟩ hl.1 rfl (Nat.le_of_ble_eq_true rfl) dX8_goes_66 (fun u137 H locs h138 hP hD hS => ?_)
              have hP : va_P D vwCl [(z 0, .inr (8, [.ref (z 1), .int (nI ty), .ref (z 2), .ref (z 3), .ref (z 4), .ref (z 5), .int (nI kn), .ref (z 6), .ref (z 7), .ref (z 8), .int (nI no), .int (nI at_), .int (nI so), .int (nI sr), .int (nI va), .ref (z 9)])), (z 2, .inl (k.1 0, 23, .inl (ta_e t))), (z 4, .inl (k.1 0, 66, .inl (ta_e (tg_step t g1 (g1 3)))))] H := hP
              have hD : va_D A [(z 0, .inr (8, [.ref (z 1), .int (nI ty), .ref (z 2), .ref (z 3), .ref (z 4), .ref (z 5), .int (nI kn), .ref (z 6), .ref (z 7), .ref (z 8), .int (nI no), .int (nI at_), .int (nI so), .int (nI sr), .int (nI va), .ref (z 9)])), (z 2, .inl (k.1 0, 23, .inl (ta_e t))), (z 4, .inl (k.1 0, 66, .inl (ta_e (tg_step t g1 (g1 3)))))] := hD
              refine lv_iload_n hx hb dX8_goes_69 rfl (lv_at hl 0 rfl) ?_
              refine ta_iconst C 2 dX8_goes_70 (by decide) ?_
              refine lv_icmp_ne (tgt := 84) hx hb dX8_goes_71 (by decide) (fun c139 => ?_) (fun c139 => ?_)
              · refine lv_iload_n hx hb dX8_goes_84 rfl (lv_at hl 0 rfl) ?_
                refine ta_iconst C 1 dX8_goes_85 (by decide) ?_
                refine lv_icmp_ne (tgt := 103) hx hb dX8_goes_86 (by decide) (fun c140 => ?_) (fun c140 => ?_)
                · refine lv_iload_n hx hb dX8_goes_103 rfl (lv_at hl 0 rfl) ?_
                  refine ta_iconst C 3 dX8_goes_104 (by decide) ?_
                  refine lv_icmp_ne (tgt := 124) hx hb dX8_goes_105 (by decide) (fun c141 => ?_) (fun c141 => ?_)
                  · refine lv_iload_n hx hb dX8_goes_124 rfl (lv_at hl 0 rfl) ?_
                    refine ta_iconst C 4 dX8_goes_125 (by decide) ?_
                    refine lv_icmp_ne (tgt := 144) hx hb dX8_goes_126 (by decide) (fun c142 => ?_) (fun c142 => ?_)
                    · obtain ⟨g2, hg2⟩ : ∃ z, z = tg_step t g1 (g1 3) := ⟨_, rfl⟩
                      rw [← hg2] at hP hD
                      have eact : tg_act t g1 0 = g2 := by rw [hg2]; unfold tg_act; rw [if_pos h4]
                      have k5 : g2 5 = g1 5 := by rw [← eact]; exact tg_act_k (by omega) e2 (by omega) (by omega) (by omega)
                      have hP : va_P D vwCl [(z 0, .inr (8, [.ref (z 1), .int (nI ty), .ref (z 2), .ref (z 3), .ref (z 4), .ref (z 5), .int (nI kn), .ref (z 6), .ref (z 7), .ref (z 8), .int (nI no), .int (nI at_), .int (nI so), .int (nI sr), .int (nI va), .ref (z 9)])), (z 2, .inl (k.1 0, 23, .inl (ta_e t))), (z 4, .inl (k.1 0, 66, .inl (ta_e g2)))] H := hP
                      have hD : va_D A [(z 0, .inr (8, [.ref (z 1), .int (nI ty), .ref (z 2), .ref (z 3), .ref (z 4), .ref (z 5), .int (nI kn), .ref (z 6), .ref (z 7), .ref (z 8), .int (nI no), .int (nI at_), .int (nI so), .int (nI sr), .int (nI va), .ref (z 9)])), (z 2, .inl (k.1 0, 23, .inl (ta_e t))), (z 4, .inl (k.1 0, 66, .inl (ta_e g2)))] := hD
                      refine lv_aload_n hx hb dX8_goes_144 rfl (lv_at hl 3 rfl) ?_
                      refine ta_get C hP 0 inlX8 rfl rfl 4 (by decide) tw_128 rfl dX8_goes_145 ?_
                      refine ta_iconst C 5 dX8_goes_148 (by decide) ?_
                      refine lv_dup2_11 hx hb dX8_goes_149 rfl rfl ?_
                      refine ta_iald C hP 2 rfl (i := 5) (by omega) dX8_goes_150 ?_
                      refine ta_iconst C 1 dX8_goes_151 (by decide) ?_
                      refine ta_isub C (a := g2 5) (b := 1) (by omega) dX8_goes_152 ?_
                      refine ta_iast C hP hD hS 2 rfl (i := 5) (v := (g2 5) - 1) (by omega) dX8_goes_153 (fun H locs hP hD hS => ?_)
                      have hP : va_P D vwCl [(z 0, .inr (8, [.ref (z 1), .int (nI ty), .ref (z 2), .ref (z 3), .ref (z 4), .ref (z 5), .int (nI kn), .ref (z 6), .ref (z 7), .ref (z 8), .int (nI no), .int (nI at_), .int (nI so), .int (nI sr), .int (nI va), .ref (z 9)])), (z 2, .inl (k.1 0, 23, .inl (ta_e t))), (z 4, .inl (k.1 0, 66, .inl (ta_e (ta_u g2 5 ((g2 5) - 1)))))] H := hP
                      have hD : va_D A [(z 0, .inr (8, [.ref (z 1), .int (nI ty), .ref (z 2), .ref (z 3), .ref (z 4), .ref (z 5), .int (nI kn), .ref (z 6), .ref (z 7), .ref (z 8), .int (nI no), .int (nI at_), .int (nI so), .int (nI sr), .int (nI va), .ref (z 9)])), (z 2, .inl (k.1 0, 23, .inl (ta_e t))), (z 4, .inl (k.1 0, 66, .inl (ta_e (ta_u g2 5 ((g2 5) - 1)))))] := hD
                      refine lv_aload_n hx hb dX8_goes_154 rfl (lv_at hl 3 rfl) ?_
                      refine ta_get C hP 0 inlX8 rfl rfl 4 (by decide) tw_128 rfl dX8_goes_155 ?_
                      refine ta_iconst C 4 dX8_goes_158 (by decide) ?_
                      refine lv_aload_n hx hb dX8_goes_159 rfl (lv_at hl 3 rfl) ?_
                      refine ta_get C hP 0 inlX8 rfl rfl 4 (by decide) tw_128 rfl dX8_goes_160 ?_
                      refine ta_iconst C 5 dX8_goes_163 (by decide) ?_
                      refine ta_iald C hP 2 rfl (i := 5) (by omega) dX8_goes_164 ?_
                      refine ta_nv (y := (g2 5) - 1) ta_us ?_
                      refine ta_ine C (a := (g2 5) - 1) (tgt := 172) (by omega) dX8_goes_165 (by decide) (fun c143 => ?_) (fun c143 => ?_)
                      · refine lv_iload_n hx hb dX8_goes_172 rfl (lv_at hl 0 rfl) ?_
                        refine ta_iast C hP hD hS 2 rfl (i := 4) (v := 0) (by omega) dX8_goes_173 (fun H locs hP hD hS => ?_)
                        have hP : va_P D vwCl [(z 0, .inr (8, [.ref (z 1), .int (nI ty), .ref (z 2), .ref (z 3), .ref (z 4), .ref (z 5), .int (nI kn), .ref (z 6), .ref (z 7), .ref (z 8), .int (nI no), .int (nI at_), .int (nI so), .int (nI sr), .int (nI va), .ref (z 9)])), (z 2, .inl (k.1 0, 23, .inl (ta_e t))), (z 4, .inl (k.1 0, 66, .inl (ta_e (ta_u (ta_u g2 5 ((g2 5) - 1)) 4 0))))] H := hP
                        have hD : va_D A [(z 0, .inr (8, [.ref (z 1), .int (nI ty), .ref (z 2), .ref (z 3), .ref (z 4), .ref (z 5), .int (nI kn), .ref (z 6), .ref (z 7), .ref (z 8), .int (nI no), .int (nI at_), .int (nI so), .int (nI sr), .int (nI va), .ref (z 9)])), (z 2, .inl (k.1 0, 23, .inl (ta_e t))), (z 4, .inl (k.1 0, 66, .inl (ta_e (ta_u (ta_u g2 5 ((g2 5) - 1)) 4 0))))] := hD
                        obtain ⟨g3, hg3⟩ : ∃ z, z = ta_u (ta_u g2 5 ((g2 5) - 1)) 4 0 := ⟨_, rfl⟩
                        rw [← hg3] at hP hD
                        have edo : tg_do t g1 0 = g3 := by unfold tg_do; rw [hg3, eact, k5, if_neg (by omega), h4]
                        have ego : tg_go t g = tg_wind t g3 1 := by unfold tg_go; rw [epre, ← ha, if_neg (by omega), edo]
                        have k1 : g3 1 = g1 1 := by rw [← edo]; exact tg_do_k (by omega) e2 (by omega) (by omega) (by omega) (by omega) (by omega)
                        have hP : va_P D vwCl [(z 0, .inr (8, [.ref (z 1), .int (nI ty), .ref (z 2), .ref (z 3), .ref (z 4), .ref (z 5), .int (nI kn), .ref (z 6), .ref (z 7), .ref (z 8), .int (nI no), .int (nI at_), .int (nI so), .int (nI sr), .int (nI va), .ref (z 9)])), (z 2, .inl (k.1 0, 23, .inl (ta_e t))), (z 4, .inl (k.1 0, 66, .inl (ta_e g3)))] H := hP
                        have hD : va_D A [(z 0, .inr (8, [.ref (z 1), .int (nI ty), .ref (z 2), .ref (z 3), .ref (z 4), .ref (z 5), .int (nI kn), .ref (z 6), .ref (z 7), .ref (z 8), .int (nI no), .int (nI at_), .int (nI so), .int (nI sr), .int (nI va), .ref (z 9)])), (z 2, .inl (k.1 0, 23, .inl (ta_e t))), (z 4, .inl (k.1 0, 66, .inl (ta_e g3)))] := hD
                        refine lv_aload_n hx hb dX8_goes_174 rfl (lv_at hl 3 rfl) ?_
                        refine ta_get C hP 0 inlX8 rfl rfl 4 (by decide) tw_128 rfl dX8_goes_175 ?_
                        refine ta_iconst C 1 dX8_goes_178 (by decide) ?_
                        refine lv_dup2_11 hx hb dX8_goes_179 rfl rfl ?_
                        refine ta_iald C hP 2 rfl (i := 1) (by omega) dX8_goes_180 ?_
                        refine ta_iconst C 1 dX8_goes_181 (by decide) ?_
                        refine ta_iadd C (a := g3 1) (b := 1) dX8_goes_182 ?_
                        refine ta_iast C hP hD hS 2 rfl (i := 1) (v := (g3 1) + 1) (by omega) dX8_goes_183 (fun H locs hP hD hS => ?_)
                        have hP : va_P D vwCl [(z 0, .inr (8, [.ref (z 1), .int (nI ty), .ref (z 2), .ref (z 3), .ref (z 4), .ref (z 5), .int (nI kn), .ref (z 6), .ref (z 7), .ref (z 8), .int (nI no), .int (nI at_), .int (nI so), .int (nI sr), .int (nI va), .ref (z 9)])), (z 2, .inl (k.1 0, 23, .inl (ta_e t))), (z 4, .inl (k.1 0, 66, .inl (ta_e (ta_u g3 1 ((g3 1) + 1)))))] H := hP
                        have hD : va_D A [(z 0, .inr (8, [.ref (z 1), .int (nI ty), .ref (z 2), .ref (z 3), .ref (z 4), .ref (z 5), .int (nI kn), .ref (z 6), .ref (z 7), .ref (z 8), .int (nI no), .int (nI at_), .int (nI so), .int (nI sr), .int (nI va), .ref (z 9)])), (z 2, .inl (k.1 0, 23, .inl (ta_e t))), (z 4, .inl (k.1 0, 66, .inl (ta_e (ta_u g3 1 ((g3 1) + 1)))))] := hD
                        refine lv_aload_n hx hb dX8_goes_184 rfl (lv_at hl 3 rfl) ?_
                        refine ta_get C hP 0 inlX8 rfl rfl 4 (by decide) tw_128 rfl dX8_goes_185 ?_
                        refine ta_iconst C 1 dX8_goes_188 (by decide) ?_
                        refine ta_iald C hP 2 rfl (i := 1) (by omega) dX8_goes_189 ?_
                        refine ta_nv (y := (g3 1) + 1) ta_us ?_
                        refine lv_aload_n hx hb dX8_goes_190 rfl (lv_at hl 3 rfl) ?_
                        refine ta_get C hP 0 inlX8 rfl rfl 2 (by decide) tw_126 rfl dX8_goes_191 ?_
                        refine ta_iconst C 2 dX8_goes_194 (by decide) ?_
                        refine ta_iald C hP 1 rfl (i := 2) (by omega) dX8_goes_195 ?_
                        refine ta_cne C (a := (g3 1) + 1) (b := t 2) (tgt := 216) (by omega) (by omega) dX8_goes_196 (by decide) (fun c144 => ?_) (fun c144 => ?_)
                        · refine lv_iload_n hx hb dX8_goes_216 rfl (lv_at hl 1 rfl) ?_
                          have e : ta_u g3 1 ((g3 1) + 1) = tg_go t g := by rw [ego]; unfold tg_wind; rw [if_neg (by omega)]
                          have ekn : nI 4294967295 = nI (tg_kn g) := by unfold tg_kn; rw [epre, ← ha]; first | rw [if_pos (by omega)] | rw [if_neg (by omega)]
                          rw [e] at hP hD
                          exact ret _ () dX8_goes_217 rfl ekn hP hD hS
                        · refine lv_aload_n hx hb dX8_goes_199 rfl (lv_at hl 3 rfl) ?_
                          refine ta_get C hP 0 inlX8 rfl rfl 4 (by decide) tw_128 rfl dX8_goes_200 ?_
                          refine ta_iconst C 1 dX8_goes_203 (by decide) ?_
                          refine ta_iconst C 0 dX8_goes_204 (by decide) ?_
                          refine ta_iast C hP hD hS 2 rfl (i := 1) (v := 0) (by omega) dX8_goes_205 (fun H locs hP hD hS => ?_)
                          have hP : va_P D vwCl [(z 0, .inr (8, [.ref (z 1), .int (nI ty), .ref (z 2), .ref (z 3), .ref (z 4), .ref (z 5), .int (nI kn), .ref (z 6), .ref (z 7), .ref (z 8), .int (nI no), .int (nI at_), .int (nI so), .int (nI sr), .int (nI va), .ref (z 9)])), (z 2, .inl (k.1 0, 23, .inl (ta_e t))), (z 4, .inl (k.1 0, 66, .inl (ta_e (ta_u (ta_u g3 1 ((g3 1) + 1)) 1 0))))] H := hP
                          have hD : va_D A [(z 0, .inr (8, [.ref (z 1), .int (nI ty), .ref (z 2), .ref (z 3), .ref (z 4), .ref (z 5), .int (nI kn), .ref (z 6), .ref (z 7), .ref (z 8), .int (nI no), .int (nI at_), .int (nI so), .int (nI sr), .int (nI va), .ref (z 9)])), (z 2, .inl (k.1 0, 23, .inl (ta_e t))), (z 4, .inl (k.1 0, 66, .inl (ta_e (ta_u (ta_u g3 1 ((g3 1) + 1)) 1 0))))] := hD
                          refine lv_aload_n hx hb dX8_goes_206 rfl (lv_at hl 3 rfl) ?_
                          refine ta_get C hP 0 inlX8 rfl rfl 4 (by decide) tw_128 rfl dX8_goes_207 ?_
                          refine ta_iconst C 0 dX8_goes_210 (by decide) ?_
                          refine lv_dup2_11 hx hb dX8_goes_211 rfl rfl ?_
                          refine ta_iald C hP 2 rfl (i := 0) (by omega) dX8_goes_212 ?_
                          refine ta_nv (y := (ta_u g3 1 ((g3 1) + 1)) 0) (ta_un (by decide)) ?_
                          refine ta_nv (y := g3 0) (ta_un (by decide)) ?_
                          refine ta_iconst C 1 dX8_goes_213 (by decide) ?_
                          refine ta_iadd C (a := g3 0) (b := 1) dX8_goes_214 ?_
                          refine ta_iast C hP hD hS 2 rfl (i := 0) (v := (g3 0) + 1) (by omega) dX8_goes_215 (fun H locs hP hD hS => ?_)
                          have hP : va_P D vwCl [(z 0, .inr (8, [.ref (z 1), .int (nI ty), .ref (z 2), .ref (z 3), .ref (z 4), .ref (z 5), .int (nI kn), .ref (z 6), .ref (z 7), .ref (z 8), .int (nI no), .int (nI at_), .int (nI so), .int (nI sr), .int (nI va), .ref (z 9)])), (z 2, .inl (k.1 0, 23, .inl (ta_e t))), (z 4, .inl (k.1 0, 66, .inl (ta_e (ta_u (ta_u (ta_u g3 1 ((g3 1) + 1)) 1 0) 0 ((g3 0) + 1)))))] H := hP
                          have hD : va_D A [(z 0, .inr (8, [.ref (z 1), .int (nI ty), .ref (z 2), .ref (z 3), .ref (z 4), .ref (z 5), .int (nI kn), .ref (z 6), .ref (z 7), .ref (z 8), .int (nI no), .int (nI at_), .int (nI so), .int (nI sr), .int (nI va), .ref (z 9)])), (z 2, .inl (k.1 0, 23, .inl (ta_e t))), (z 4, .inl (k.1 0, 66, .inl (ta_e (ta_u (ta_u (ta_u g3 1 ((g3 1) + 1)) 1 0) 0 ((g3 0) + 1)))))] := hD
                          refine lv_iload_n hx hb dX8_goes_216 rfl (lv_at hl 1 rfl) ?_
                          have e : ta_u (ta_u (ta_u g3 1 ((g3 1) + 1)) 1 0) 0 ((g3 0) + 1) = tg_go t g := by rw [ego]; unfold tg_wind; rw [if_pos (by omega), ta_uu]
                          have ekn : nI 4294967295 = nI (tg_kn g) := by unfold tg_kn; rw [epre, ← ha]; first | rw [if_pos (by omega)] | rw [if_neg (by omega)]
                          rw [e] at hP hD
                          exact ret _ () dX8_goes_217 rfl ekn hP hD hS
                      · refine ta_iconst C 4294967295 dX8_goes_168 (by decide) ?_
                        refine lv_goto (tgt := 173) hx hb dX8_goes_169 (by decide) ?_
                        refine ta_iast C hP hD hS 2 rfl (i := 4) (v := 4294967295) (by omega) dX8_goes_173 (fun H locs hP hD hS => ?_)
                        have hP : va_P D vwCl [(z 0, .inr (8, [.ref (z 1), .int (nI ty), .ref (z 2), .ref (z 3), .ref (z 4), .ref (z 5), .int (nI kn), .ref (z 6), .ref (z 7), .ref (z 8), .int (nI no), .int (nI at_), .int (nI so), .int (nI sr), .int (nI va), .ref (z 9)])), (z 2, .inl (k.1 0, 23, .inl (ta_e t))), (z 4, .inl (k.1 0, 66, .inl (ta_e (ta_u (ta_u g2 5 ((g2 5) - 1)) 4 4294967295))))] H := hP
                        have hD : va_D A [(z 0, .inr (8, [.ref (z 1), .int (nI ty), .ref (z 2), .ref (z 3), .ref (z 4), .ref (z 5), .int (nI kn), .ref (z 6), .ref (z 7), .ref (z 8), .int (nI no), .int (nI at_), .int (nI so), .int (nI sr), .int (nI va), .ref (z 9)])), (z 2, .inl (k.1 0, 23, .inl (ta_e t))), (z 4, .inl (k.1 0, 66, .inl (ta_e (ta_u (ta_u g2 5 ((g2 5) - 1)) 4 4294967295))))] := hD
                        obtain ⟨g3, hg3⟩ : ∃ z, z = ta_u (ta_u g2 5 ((g2 5) - 1)) 4 4294967295 := ⟨_, rfl⟩
                        rw [← hg3] at hP hD
                        have edo : tg_do t g1 0 = g3 := by unfold tg_do; rw [hg3, eact, k5, if_pos (by omega)]
                        have ego : tg_go t g = tg_wind t g3 1 := by unfold tg_go; rw [epre, ← ha, if_neg (by omega), edo]
                        have k1 : g3 1 = g1 1 := by rw [← edo]; exact tg_do_k (by omega) e2 (by omega) (by omega) (by omega) (by omega) (by omega)
                        have hP : va_P D vwCl [(z 0, .inr (8, [.ref (z 1), .int (nI ty), .ref (z 2), .ref (z 3), .ref (z 4), .ref (z 5), .int (nI kn), .ref (z 6), .ref (z 7), .ref (z 8), .int (nI no), .int (nI at_), .int (nI so), .int (nI sr), .int (nI va), .ref (z 9)])), (z 2, .inl (k.1 0, 23, .inl (ta_e t))), (z 4, .inl (k.1 0, 66, .inl (ta_e g3)))] H := hP
                        have hD : va_D A [(z 0, .inr (8, [.ref (z 1), .int (nI ty), .ref (z 2), .ref (z 3), .ref (z 4), .ref (z 5), .int (nI kn), .ref (z 6), .ref (z 7), .ref (z 8), .int (nI no), .int (nI at_), .int (nI so), .int (nI sr), .int (nI va), .ref (z 9)])), (z 2, .inl (k.1 0, 23, .inl (ta_e t))), (z 4, .inl (k.1 0, 66, .inl (ta_e g3)))] := hD
                        refine lv_aload_n hx hb dX8_goes_174 rfl (lv_at hl 3 rfl) ?_
                        refine ta_get C hP 0 inlX8 rfl rfl 4 (by decide) tw_128 rfl dX8_goes_175 ?_
                        refine ta_iconst C 1 dX8_goes_178 (by decide) ?_
                        refine lv_dup2_11 hx hb dX8_goes_179 rfl rfl ?_
                        refine ta_iald C hP 2 rfl (i := 1) (by omega) dX8_goes_180 ?_
                        refine ta_iconst C 1 dX8_goes_181 (by decide) ?_
                        refine ta_iadd C (a := g3 1) (b := 1) dX8_goes_182 ?_
                        refine ta_iast C hP hD hS 2 rfl (i := 1) (v := (g3 1) + 1) (by omega) dX8_goes_183 (fun H locs hP hD hS => ?_)
                        have hP : va_P D vwCl [(z 0, .inr (8, [.ref (z 1), .int (nI ty), .ref (z 2), .ref (z 3), .ref (z 4), .ref (z 5), .int (nI kn), .ref (z 6), .ref (z 7), .ref (z 8), .int (nI no), .int (nI at_), .int (nI so), .int (nI sr), .int (nI va), .ref (z 9)])), (z 2, .inl (k.1 0, 23, .inl (ta_e t))), (z 4, .inl (k.1 0, 66, .inl (ta_e (ta_u g3 1 ((g3 1) + 1)))))] H := hP
                        have hD : va_D A [(z 0, .inr (8, [.ref (z 1), .int (nI ty), .ref (z 2), .ref (z 3), .ref (z 4), .ref (z 5), .int (nI kn), .ref (z 6), .ref (z 7), .ref (z 8), .int (nI no), .int (nI at_), .int (nI so), .int (nI sr), .int (nI va), .ref (z 9)])), (z 2, .inl (k.1 0, 23, .inl (ta_e t))), (z 4, .inl (k.1 0, 66, .inl (ta_e (ta_u g3 1 ((g3 1) + 1)))))] := hD
                        refine lv_aload_n hx hb dX8_goes_184 rfl (lv_at hl 3 rfl) ?_
                        refine ta_get C hP 0 inlX8 rfl rfl 4 (by decide) tw_128 rfl dX8_goes_185 ?_
                        refine ta_iconst C 1 dX8_goes_188 (by decide) ?_
                        refine ta_iald C hP 2 rfl (i := 1) (by omega) dX8_goes_189 ?_
                        refine ta_nv (y := (g3 1) + 1) ta_us ?_
                        refine lv_aload_n hx hb dX8_goes_190 rfl (lv_at hl 3 rfl) ?_
                        refine ta_get C hP 0 inlX8 rfl rfl 2 (by decide) tw_126 rfl dX8_goes_191 ?_
                        refine ta_iconst C 2 dX8_goes_194 (by decide) ?_
                        refine ta_iald C hP 1 rfl (i := 2) (by omega) dX8_goes_195 ?_
                        refine ta_cne C (a := (g3 1) + 1) (b := t 2) (tgt := 216) (by omega) (by omega) dX8_goes_196 (by decide) (fun c145 => ?_) (fun c145 => ?_)
                        · refine lv_iload_n hx hb dX8_goes_216 rfl (lv_at hl 1 rfl) ?_
                          have e : ta_u g3 1 ((g3 1) + 1) = tg_go t g := by rw [ego]; unfold tg_wind; rw [if_neg (by omega)]
                          have ekn : nI 4294967295 = nI (tg_kn g) := by unfold tg_kn; rw [epre, ← ha]; first | rw [if_pos (by omega)] | rw [if_neg (by omega)]
                          rw [e] at hP hD
                          exact ret _ () dX8_goes_217 rfl ekn hP hD hS
                        · refine lv_aload_n hx hb dX8_goes_199 rfl (lv_at hl 3 rfl) ?_
                          refine ta_get C hP 0 inlX8 rfl rfl 4 (by decide) tw_128 rfl dX8_goes_200 ?_
                          refine ta_iconst C 1 dX8_goes_203 (by decide) ?_
                          refine ta_iconst C 0 dX8_goes_204 (by decide) ?_
                          refine ta_iast C hP hD hS 2 rfl (i := 1) (v := 0) (by omega) dX8_goes_205 (fun H locs hP hD hS => ?_)
                          have hP : va_P D vwCl [(z 0, .inr (8, [.ref (z 1), .int (nI ty), .ref (z 2), .ref (z 3), .ref (z 4), .ref (z 5), .int (nI kn), .ref (z 6), .ref (z 7), .ref (z 8), .int (nI no), .int (nI at_), .int (nI so), .int (nI sr), .int (nI va), .ref (z 9)])), (z 2, .inl (k.1 0, 23, .inl (ta_e t))), (z 4, .inl (k.1 0, 66, .inl (ta_e (ta_u (ta_u g3 1 ((g3 1) + 1)) 1 0))))] H := hP
                          have hD : va_D A [(z 0, .inr (8, [.ref (z 1), .int (nI ty), .ref (z 2), .ref (z 3), .ref (z 4), .ref (z 5), .int (nI kn), .ref (z 6), .ref (z 7), .ref (z 8), .int (nI no), .int (nI at_), .int (nI so), .int (nI sr), .int (nI va), .ref (z 9)])), (z 2, .inl (k.1 0, 23, .inl (ta_e t))), (z 4, .inl (k.1 0, 66, .inl (ta_e (ta_u (ta_u g3 1 ((g3 1) + 1)) 1 0))))] := hD
                          refine lv_aload_n hx hb dX8_goes_206 rfl (lv_at hl 3 rfl) ?_
                          refine ta_get C hP 0 inlX8 rfl rfl 4 (by decide) tw_128 rfl dX8_goes_207 ?_
                          refine ta_iconst C 0 dX8_goes_210 (by decide) ?_
                          refine lv_dup2_11 hx hb dX8_goes_211 rfl rfl ?_
                          refine ta_iald C hP 2 rfl (i := 0) (by omega) dX8_goes_212 ?_
                          refine ta_nv (y := (ta_u g3 1 ((g3 1) + 1)) 0) (ta_un (by decide)) ?_
                          refine ta_nv (y := g3 0) (ta_un (by decide)) ?_
                          refine ta_iconst C 1 dX8_goes_213 (by decide) ?_
                          refine ta_iadd C (a := g3 0) (b := 1) dX8_goes_214 ?_
                          refine ta_iast C hP hD hS 2 rfl (i := 0) (v := (g3 0) + 1) (by omega) dX8_goes_215 (fun H locs hP hD hS => ?_)
                          have hP : va_P D vwCl [(z 0, .inr (8, [.ref (z 1), .int (nI ty), .ref (z 2), .ref (z 3), .ref (z 4), .ref (z 5), .int (nI kn), .ref (z 6), .ref (z 7), .ref (z 8), .int (nI no), .int (nI at_), .int (nI so), .int (nI sr), .int (nI va), .ref (z 9)])), (z 2, .inl (k.1 0, 23, .inl (ta_e t))), (z 4, .inl (k.1 0, 66, .inl (ta_e (ta_u (ta_u (ta_u g3 1 ((g3 1) + 1)) 1 0) 0 ((g3 0) + 1)))))] H := hP
                          have hD : va_D A [(z 0, .inr (8, [.ref (z 1), .int (nI ty), .ref (z 2), .ref (z 3), .ref (z 4), .ref (z 5), .int (nI kn), .ref (z 6), .ref (z 7), .ref (z 8), .int (nI no), .int (nI at_), .int (nI so), .int (nI sr), .int (nI va), .ref (z 9)])), (z 2, .inl (k.1 0, 23, .inl (ta_e t))), (z 4, .inl (k.1 0, 66, .inl (ta_e (ta_u (ta_u (ta_u g3 1 ((g3 1) + 1)) 1 0) 0 ((g3 0) + 1)))))] := hD
                          refine lv_iload_n hx hb dX8_goes_216 rfl (lv_at hl 1 rfl) ?_
                          have e : ta_u (ta_u (ta_u g3 1 ((g3 1) + 1)) 1 0) 0 ((g3 0) + 1) = tg_go t g := by rw [ego]; unfold tg_wind; rw [if_pos (by omega), ta_uu]
                          have ekn : nI 4294967295 = nI (tg_kn g) := by unfold tg_kn; rw [epre, ← ha]; first | rw [if_pos (by omega)] | rw [if_neg (by omega)]
                          rw [e] at hP hD
                          exact ret _ () dX8_goes_217 rfl ekn hP hD hS
                    · exact absurd c142 (by decide)
                  · exact absurd c141 (by decide)
                · exact absurd c140 (by decide)
              · exact absurd c139 (by decide)
            · exact absurd c135 (by decide)
        · refine ta_nv (y := 1) h4 ?_
          refine lv_istore_n (lv' := [(3, .int (nI 1)), (2, .int (nI 4294967295)), (1, .int (nI 0)), (0, .ref (z 0))]) hx hb dX8_goes_44 rfl hl (by decide) rfl (fun ls hl => ?_)
          refine lv_iload_n hx hb dX8_goes_45 rfl (lv_at hl 0 rfl) ?_
          refine ta_iconst C 4294967295 dX8_goes_46 (by decide) ?_
          refine lv_icmp_eq (tgt := 174) hx hb dX8_goes_47 (by decide) (fun c146 => ?_) (fun c146 => ?_)
          · exact absurd c146 (by decide)
          · refine lv_iload_n hx hb dX8_goes_50 rfl (lv_at hl 0 rfl) ?_
            refine lv_if_eq (tgt := 59) hx hb dX8_goes_51 (by decide) (fun c147 => ?_) (fun c147 => ?_)
            · exact absurd c147 (by decide)
            · refine lv_iload_n hx hb dX8_goes_54 rfl (lv_at hl 0 rfl) ?_
              refine ta_iconst C 2 dX8_goes_55 (by decide) ?_
              refine lv_icmp_ne (tgt := 69) hx hb dX8_goes_56 (by decide) (fun c148 => ?_) (fun c148 => ?_)
              · refine lv_iload_n hx hb dX8_goes_69 rfl (lv_at hl 0 rfl) ?_
                refine ta_iconst C 2 dX8_goes_70 (by decide) ?_
                refine lv_icmp_ne (tgt := 84) hx hb dX8_goes_71 (by decide) (fun c149 => ?_) (fun c149 => ?_)
                · refine lv_iload_n hx hb dX8_goes_84 rfl (lv_at hl 0 rfl) ?_
                  refine ta_iconst C 1 dX8_goes_85 (by decide) ?_
                  refine lv_icmp_ne (tgt := 103) hx hb dX8_goes_86 (by decide) (fun c150 => ?_) (fun c150 => ?_)
                  · exact absurd c150 (by decide)
                  · refine lv_aload_n hx hb dX8_goes_89 rfl (lv_at hl 3 rfl) ?_
                    refine lv_aload_n hx hb dX8_goes_90 rfl (lv_at hl 3 rfl) ?_
                    refine ta_get C hP 0 inlX8 rfl rfl 4 (by decide) tw_128 rfl dX8_goes_91 ?_
                    refine ta_iconst C 3 dX8_goes_94 (by decide) ?_
                    refine ta_iald C hP 2 rfl (i := 3) (by omega) dX8_goes_95 ?_
                    refine ta_iconst C 2 dX8_goes_96 (by decide) ?_
                    refine ta_iadd C (a := g1 3) (b := 2) dX8_goes_97 ?_
                    refine ta_iconst C 4 dX8_goes_98 (by decide) ?_
                    refine ta_irem C (a := (g1 3) + 2) (b := 4) (by omega) (by omega) (by omega) dX8_goes_99 ?_
                    refine ta_callVv (As := [.int (nI (((g1 3) + 2) % 4))]) (rest0 := []) (Wr := []) C hP hD hS (c_X8_steps l D k z ty kn no at_ so sr va t g1 (((g1 3) + 2) % 4) hok1 (by omega)) 0 rfl rfl rfl [0, 1, 2] [] rfl rfl (by decide) (by decide) (by decide) tw_489 tw_486 tw_5 tw_487 tw_488 ⟨by decide, by decide, rfl⟩ ⟨Nat.le_of_ble_eq_true rfl, Nat.le_of_ble_eq_true rfl⟩ ⟨Nat.zero_le _, Nat.zero_le _⟩ hl.1 rfl (Nat.le_of_ble_eq_true rfl) dX8_goes_100 (fun u152 H locs h153 hP hD hS => ?_)
                    have hP : va_P D vwCl [(z 0, .inr (8, [.ref (z 1), .int (nI ty), .ref (z 2), .ref (z 3), .ref (z 4), .ref (z 5), .int (nI kn), .ref (z 6), .ref (z 7), .ref (z 8), .int (nI no), .int (nI at_), .int (nI so), .int (nI sr), .int (nI va), .ref (z 9)])), (z 2, .inl (k.1 0, 23, .inl (ta_e t))), (z 4, .inl (k.1 0, 66, .inl (ta_e (tg_step t g1 (((g1 3) + 2) % 4)))))] H := hP
                    have hD : va_D A [(z 0, .inr (8, [.ref (z 1), .int (nI ty), .ref (z 2), .ref (z 3), .ref (z 4), .ref (z 5), .int (nI kn), .ref (z 6), .ref (z 7), .ref (z 8), .int (nI no), .int (nI at_), .int (nI so), .int (nI sr), .int (nI va), .ref (z 9)])), (z 2, .inl (k.1 0, 23, .inl (ta_e t))), (z 4, .inl (k.1 0, 66, .inl (ta_e (tg_step t g1 (((g1 3) + 2) % 4)))))] := hD
                    refine lv_iload_n hx hb dX8_goes_103 rfl (lv_at hl 0 rfl) ?_
                    refine ta_iconst C 3 dX8_goes_104 (by decide) ?_
                    refine lv_icmp_ne (tgt := 124) hx hb dX8_goes_105 (by decide) (fun c154 => ?_) (fun c154 => ?_)
                    · refine lv_iload_n hx hb dX8_goes_124 rfl (lv_at hl 0 rfl) ?_
                      refine ta_iconst C 4 dX8_goes_125 (by decide) ?_
                      refine lv_icmp_ne (tgt := 144) hx hb dX8_goes_126 (by decide) (fun c155 => ?_) (fun c155 => ?_)
                      · obtain ⟨g2, hg2⟩ : ∃ z, z = tg_step t g1 (((g1 3) + 2) % 4) := ⟨_, rfl⟩
                        rw [← hg2] at hP hD
                        have eact : tg_act t g1 0 = g2 := by rw [hg2]; unfold tg_act; rw [if_neg (by omega), if_pos h4]
                        have k5 : g2 5 = g1 5 := by rw [← eact]; exact tg_act_k (by omega) e2 (by omega) (by omega) (by omega)
                        have hP : va_P D vwCl [(z 0, .inr (8, [.ref (z 1), .int (nI ty), .ref (z 2), .ref (z 3), .ref (z 4), .ref (z 5), .int (nI kn), .ref (z 6), .ref (z 7), .ref (z 8), .int (nI no), .int (nI at_), .int (nI so), .int (nI sr), .int (nI va), .ref (z 9)])), (z 2, .inl (k.1 0, 23, .inl (ta_e t))), (z 4, .inl (k.1 0, 66, .inl (ta_e g2)))] H := hP
                        have hD : va_D A [(z 0, .inr (8, [.ref (z 1), .int (nI ty), .ref (z 2), .ref (z 3), .ref (z 4), .ref (z 5), .int (nI kn), .ref (z 6), .ref (z 7), .ref (z 8), .int (nI no), .int (nI at_), .int (nI so), .int (nI sr), .int (nI va), .ref (z 9)])), (z 2, .inl (k.1 0, 23, .inl (ta_e t))), (z 4, .inl (k.1 0, 66, .inl (ta_e g2)))] := hD
                        refine lv_aload_n hx hb dX8_goes_144 rfl (lv_at hl 3 rfl) ?_
                        refine ta_get C hP 0 inlX8 rfl rfl 4 (by decide) tw_128 rfl dX8_goes_145 ?_
                        refine ta_iconst C 5 dX8_goes_148 (by decide) ?_
                        refine lv_dup2_11 hx hb dX8_goes_149 rfl rfl ?_
                        refine ta_iald C hP 2 rfl (i := 5) (by omega) dX8_goes_150 ?_
                        refine ta_iconst C 1 dX8_goes_151 (by decide) ?_
                        refine ta_isub C (a := g2 5) (b := 1) (by omega) dX8_goes_152 ?_
                        refine ta_iast C hP hD hS 2 rfl (i := 5) (v := (g2 5) - 1) (by omega) dX8_goes_153 (fun H locs hP hD hS => ?_)
                        have hP : va_P D vwCl [(z 0, .inr (8, [.ref (z 1), .int (nI ty), .ref (z 2), .ref (z 3), .ref (z 4), .ref (z 5), .int (nI kn), .ref (z 6), .ref (z 7), .ref (z 8), .int (nI no), .int (nI at_), .int (nI so), .int (nI sr), .int (nI va), .ref (z 9)])), (z 2, .inl (k.1 0, 23, .inl (ta_e t))), (z 4, .inl (k.1 0, 66, .inl (ta_e (ta_u g2 5 ((g2 5) - 1)))))] H := hP
                        have hD : va_D A [(z 0, .inr (8, [.ref (z 1), .int (nI ty), .ref (z 2), .ref (z 3), .ref (z 4), .ref (z 5), .int (nI kn), .ref (z 6), .ref (z 7), .ref (z 8), .int (nI no), .int (nI at_), .int (nI so), .int (nI sr), .int (nI va), .ref (z 9)])), (z 2, .inl (k.1 0, 23, .inl (ta_e t))), (z 4, .inl (k.1 0, 66, .inl (ta_e (ta_u g2 5 ((g2 5) - 1)))))] := hD
                        refine lv_aload_n hx hb dX8_goes_154 rfl (lv_at hl 3 rfl) ?_
                        refine ta_get C hP 0 inlX8 rfl rfl 4 (by decide) tw_128 rfl dX8_goes_155 ?_
                        refine ta_iconst C 4 dX8_goes_158 (by decide) ?_
                        refine lv_aload_n hx hb dX8_goes_159 rfl (lv_at hl 3 rfl) ?_
                        refine ta_get C hP 0 inlX8 rfl rfl 4 (by decide) tw_128 rfl dX8_goes_160 ?_
                        refine ta_iconst C 5 dX8_goes_163 (by decide) ?_
                        refine ta_iald C hP 2 rfl (i := 5) (by omega) dX8_goes_164 ?_
                        refine ta_nv (y := (g2 5) - 1) ta_us ?_
                        refine ta_ine C (a := (g2 5) - 1) (tgt := 172) (by omega) dX8_goes_165 (by decide) (fun c156 => ?_) (fun c156 => ?_)
                        · refine lv_iload_n hx hb dX8_goes_172 rfl (lv_at hl 0 rfl) ?_
                          refine ta_iast C hP hD hS 2 rfl (i := 4) (v := 1) (by omega) dX8_goes_173 (fun H locs hP hD hS => ?_)
                          have hP : va_P D vwCl [(z 0, .inr (8, [.ref (z 1), .int (nI ty), .ref (z 2), .ref (z 3), .ref (z 4), .ref (z 5), .int (nI kn), .ref (z 6), .ref (z 7), .ref (z 8), .int (nI no), .int (nI at_), .int (nI so), .int (nI sr), .int (nI va), .ref (z 9)])), (z 2, .inl (k.1 0, 23, .inl (ta_e t))), (z 4, .inl (k.1 0, 66, .inl (ta_e (ta_u (ta_u g2 5 ((g2 5) - 1)) 4 1))))] H := hP
                          have hD : va_D A [(z 0, .inr (8, [.ref (z 1), .int (nI ty), .ref (z 2), .ref (z 3), .ref (z 4), .ref (z 5), .int (nI kn), .ref (z 6), .ref (z 7), .ref (z 8), .int (nI no), .int (nI at_), .int (nI so), .int (nI sr), .int (nI va), .ref (z 9)])), (z 2, .inl (k.1 0, 23, .inl (ta_e t))), (z 4, .inl (k.1 0, 66, .inl (ta_e (ta_u (ta_u g2 5 ((g2 5) - 1)) 4 1))))] := hD
                          obtain ⟨g3, hg3⟩ : ∃ z, z = ta_u (ta_u g2 5 ((g2 5) - 1)) 4 1 := ⟨_, rfl⟩
                          rw [← hg3] at hP hD
                          have edo : tg_do t g1 0 = g3 := by unfold tg_do; rw [hg3, eact, k5, if_neg (by omega), h4]
                          have ego : tg_go t g = tg_wind t g3 1 := by unfold tg_go; rw [epre, ← ha, if_neg (by omega), edo]
                          have k1 : g3 1 = g1 1 := by rw [← edo]; exact tg_do_k (by omega) e2 (by omega) (by omega) (by omega) (by omega) (by omega)
                          have hP : va_P D vwCl [(z 0, .inr (8, [.ref (z 1), .int (nI ty), .ref (z 2), .ref (z 3), .ref (z 4), .ref (z 5), .int (nI kn), .ref (z 6), .ref (z 7), .ref (z 8), .int (nI no), .int (nI at_), .int (nI so), .int (nI sr), .int (nI va), .ref (z 9)])), (z 2, .inl (k.1 0, 23, .inl (ta_e t))), (z 4, .inl (k.1 0, 66, .inl (ta_e g3)))] H := hP
                          have hD : va_D A [(z 0, .inr (8, [.ref (z 1), .int (nI ty), .ref (z 2), .ref (z 3), .ref (z 4), .ref (z 5), .int (nI kn), .ref (z 6), .ref (z 7), .ref (z 8), .int (nI no), .int (nI at_), .int (nI so), .int (nI sr), .int (nI va), .ref (z 9)])), (z 2, .inl (k.1 0, 23, .inl (ta_e t))), (z 4, .inl (k.1 0, 66, .inl (ta_e g3)))] := hD
                          refine lv_aload_n hx hb dX8_goes_174 rfl (lv_at hl 3 rfl) ?_
                          refine ta_get C hP 0 inlX8 rfl rfl 4 (by decide) tw_128 rfl dX8_goes_175 ?_
                          refine ta_iconst C 1 dX8_goes_178 (by decide) ?_
                          refine lv_dup2_11 hx hb dX8_goes_179 rfl rfl ?_
                          refine ta_iald C hP 2 rfl (i := 1) (by omega) dX8_goes_180 ?_
                          refine ta_iconst C 1 dX8_goes_181 (by decide) ?_
                          refine ta_iadd C (a := g3 1) (b := 1) dX8_goes_182 ?_
                          refine ta_iast C hP hD hS 2 rfl (i := 1) (v := (g3 1) + 1) (by omega) dX8_goes_183 (fun H locs hP hD hS => ?_)
                          have hP : va_P D vwCl [(z 0, .inr (8, [.ref (z 1), .int (nI ty), .ref (z 2), .ref (z 3), .ref (z 4), .ref (z 5), .int (nI kn), .ref (z 6), .ref (z 7), .ref (z 8), .int (nI no), .int (nI at_), .int (nI so), .int (nI sr), .int (nI va), .ref (z 9)])), (z 2, .inl (k.1 0, 23, .inl (ta_e t))), (z 4, .inl (k.1 0, 66, .inl (ta_e (ta_u g3 1 ((g3 1) + 1)))))] H := hP
                          have hD : va_D A [(z 0, .inr (8, [.ref (z 1), .int (nI ty), .ref (z 2), .ref (z 3), .ref (z 4), .ref (z 5), .int (nI kn), .ref (z 6), .ref (z 7), .ref (z 8), .int (nI no), .int (nI at_), .int (nI so), .int (nI sr), .int (nI va), .ref (z 9)])), (z 2, .inl (k.1 0, 23, .inl (ta_e t))), (z 4, .inl (k.1 0, 66, .inl (ta_e (ta_u g3 1 ((g3 1) + 1)))))] := hD
                          refine lv_aload_n hx hb dX8_goes_184 rfl (lv_at hl 3 rfl) ?_
                          refine ta_get C hP 0 inlX8 rfl rfl 4 (by decide) tw_128 rfl dX8_goes_185 ?_
                          refine ta_iconst C 1 dX8_goes_188 (by decide) ?_
                          refine ta_iald C hP 2 rfl (i := 1) (by omega) dX8_goes_189 ?_
                          refine ta_nv (y := (g3 1) + 1) ta_us ?_
                          refine lv_aload_n hx hb dX8_goes_190 rfl (lv_at hl 3 rfl) ?_
                          refine ta_get C hP 0 inlX8 rfl rfl 2 (by decide) tw_126 rfl dX8_goes_191 ?_
                          refine ta_iconst C 2 dX8_goes_194 (by decide) ?_
                          refine ta_iald C hP 1 rfl (i := 2) (by omega) dX8_goes_195 ?_
                          refine ta_cne C (a := (g3 1) + 1) (b := t 2) (tgt := 216) (by omega) (by omega) dX8_goes_196 (by decide) (fun c157 => ?_) (fun c157 => ?_)
                          · refine lv_iload_n hx hb dX8_goes_216 rfl (lv_at hl 1 rfl) ?_
                            have e : ta_u g3 1 ((g3 1) + 1) = tg_go t g := by rw [ego]; unfold tg_wind; rw [if_neg (by omega)]
                            have ekn : nI 4294967295 = nI (tg_kn g) := by unfold tg_kn; rw [epre, ← ha]; first | rw [if_pos (by omega)] | rw [if_neg (by omega)]
                            rw [e] at hP hD
                            exact ret _ () dX8_goes_217 rfl ekn hP hD hS
                          · refine lv_aload_n hx hb dX8_goes_199 rfl (lv_at hl 3 rfl) ?_
                            refine ta_get C hP 0 inlX8 rfl rfl 4 (by decide) tw_128 rfl dX8_goes_200 ?_
                            refine ta_iconst C 1 dX8_goes_203 (by decide) ?_
                            refine ta_iconst C 0 dX8_goes_204 (by decide) ?_
                            refine ta_iast C hP hD hS 2 rfl (i := 1) (v := 0) (by omega) dX8_goes_205 (fun H locs hP hD hS => ?_)
                            have hP : va_P D vwCl [(z 0, .inr (8, [.ref (z 1), .int (nI ty), .ref (z 2), .ref (z 3), .ref (z 4), .ref (z 5), .int (nI kn), .ref (z 6), .ref (z 7), .ref (z 8), .int (nI no), .int (nI at_), .int (nI so), .int (nI sr), .int (nI va), .ref (z 9)])), (z 2, .inl (k.1 0, 23, .inl (ta_e t))), (z 4, .inl (k.1 0, 66, .inl (ta_e (ta_u (ta_u g3 1 ((g3 1) + 1)) 1 0))))] H := hP
                            have hD : va_D A [(z 0, .inr (8, [.ref (z 1), .int (nI ty), .ref (z 2), .ref (z 3), .ref (z 4), .ref (z 5), .int (nI kn), .ref (z 6), .ref (z 7), .ref (z 8), .int (nI no), .int (nI at_), .int (nI so), .int (nI sr), .int (nI va), .ref (z 9)])), (z 2, .inl (k.1 0, 23, .inl (ta_e t))), (z 4, .inl (k.1 0, 66, .inl (ta_e (ta_u (ta_u g3 1 ((g3 1) + 1)) 1 0))))] := hD
                            refine lv_aload_n hx hb dX8_goes_206 rfl (lv_at hl 3 rfl) ?_
                            refine ta_get C hP 0 inlX8 rfl rfl 4 (by decide) tw_128 rfl dX8_goes_207 ?_
                            refine ta_iconst C 0 dX8_goes_210 (by decide) ?_
                            refine lv_dup2_11 hx hb dX8_goes_211 rfl rfl ?_
                            refine ta_iald C hP 2 rfl (i := 0) (by omega) dX8_goes_212 ?_
                            refine ta_nv (y := (ta_u g3 1 ((g3 1) + 1)) 0) (ta_un (by decide)) ?_
                            refine ta_nv (y := g3 0) (ta_un (by decide)) ?_
                            refine ta_iconst C 1 dX8_goes_213 (by decide) ?_
                            refine ta_iadd C (a := g3 0) (b := 1) dX8_goes_214 ?_
                            refine ta_iast C hP hD hS 2 rfl (i := 0) (v := (g3 0) + 1) (by omega) dX8_goes_215 (fun H locs hP hD hS => ?_)
                            have hP : va_P D vwCl [(z 0, .inr (8, [.ref (z 1), .int (nI ty), .ref (z 2), .ref (z 3), .ref (z 4), .ref (z 5), .int (nI kn), .ref (z 6), .ref (z 7), .ref (z 8), .int (nI no), .int (nI at_), .int (nI so), .int (nI sr), .int (nI va), .ref (z 9)])), (z 2, .inl (k.1 0, 23, .inl (ta_e t))), (z 4, .inl (k.1 0, 66, .inl (ta_e (ta_u (ta_u (ta_u g3 1 ((g3 1) + 1)) 1 0) 0 ((g3 0) + 1)))))] H := hP
                            have hD : va_D A [(z 0, .inr (8, [.ref (z 1), .int (nI ty), .ref (z 2), .ref (z 3), .ref (z 4), .ref (z 5), .int (nI kn), .ref (z 6), .ref (z 7), .ref (z 8), .int (nI no), .int (nI at_), .int (nI so), .int (nI sr), .int (nI va), .ref (z 9)])), (z 2, .inl (k.1 0, 23, .inl (ta_e t))), (z 4, .inl (k.1 0, 66, .inl (ta_e (ta_u (ta_u (ta_u g3 1 ((g3 1) + 1)) 1 0) 0 ((g3 0) + 1)))))] := hD
                            refine lv_iload_n hx hb dX8_goes_216 rfl (lv_at hl 1 rfl) ?_
                            have e : ta_u (ta_u (ta_u g3 1 ((g3 1) + 1)) 1 0) 0 ((g3 0) + 1) = tg_go t g := by rw [ego]; unfold tg_wind; rw [if_pos (by omega), ta_uu]
                            have ekn : nI 4294967295 = nI (tg_kn g) := by unfold tg_kn; rw [epre, ← ha]; first | rw [if_pos (by omega)] | rw [if_neg (by omega)]
                            rw [e] at hP hD
                            exact ret _ () dX8_goes_217 rfl ekn hP hD hS
                        · refine ta_iconst C 4294967295 dX8_goes_168 (by decide) ?_
                          refine lv_goto (tgt := 173) hx hb dX8_goes_169 (by decide) ?_
                          refine ta_iast C hP hD hS 2 rfl (i := 4) (v := 4294967295) (by omega) dX8_goes_173 (fun H locs hP hD hS => ?_)
                          have hP : va_P D vwCl [(z 0, .inr (8, [.ref (z 1), .int (nI ty), .ref (z 2), .ref (z 3), .ref (z 4), .ref (z 5), .int (nI kn), .ref (z 6), .ref (z 7), .ref (z 8), .int (nI no), .int (nI at_), .int (nI so), .int (nI sr), .int (nI va), .ref (z 9)])), (z 2, .inl (k.1 0, 23, .inl (ta_e t))), (z 4, .inl (k.1 0, 66, .inl (ta_e (ta_u (ta_u g2 5 ((g2 5) - 1)) 4 4294967295))))] H := hP
                          have hD : va_D A [(z 0, .inr (8, [.ref (z 1), .int (nI ty), .ref (z 2), .ref (z 3), .ref (z 4), .ref (z 5), .int (nI kn), .ref (z 6), .ref (z 7), .ref (z 8), .int (nI no), .int (nI at_), .int (nI so), .int (nI sr), .int (nI va), .ref (z 9)])), (z 2, .inl (k.1 0, 23, .inl (ta_e t))), (z 4, .inl (k.1 0, 66, .inl (ta_e (ta_u (ta_u g2 5 ((g2 5) - 1)) 4 4294967295))))] := hD
                          obtain ⟨g3, hg3⟩ : ∃ z, z = ta_u (ta_u g2 5 ((g2 5) - 1)) 4 4294967295 := ⟨_, rfl⟩
                          rw [← hg3] at hP hD
                          have edo : tg_do t g1 0 = g3 := by unfold tg_do; rw [hg3, eact, k5, if_pos (by omega)]
                          have ego : tg_go t g = tg_wind t g3 1 := by unfold tg_go; rw [epre, ← ha, if_neg (by omega), edo]
                          have k1 : g3 1 = g1 1 := by rw [← edo]; exact tg_do_k (by omega) e2 (by omega) (by omega) (by omega) (by omega) (by omega)
                          have hP : va_P D vwCl [(z 0, .inr (8, [.ref (z 1), .int (nI ty), .ref (z 2), .ref (z 3), .ref (z 4), .ref (z 5), .int (nI kn), .ref (z 6), .ref (z 7), .ref (z 8), .int (nI no), .int (nI at_), .int (nI so), .int (nI sr), .int (nI va), .ref (z 9)])), (z 2, .inl (k.1 0, 23, .inl (ta_e t))), (z 4, .inl (k.1 0, 66, .inl (ta_e g3)))] H := hP
                          have hD : va_D A [(z 0, .inr (8, [.ref (z 1), .int (nI ty), .ref (z 2), .ref (z 3), .ref (z 4), .ref (z 5), .int (nI kn), .ref (z 6), .ref (z 7), .ref (z 8), .int (nI no), .int (nI at_), .int (nI so), .int (nI sr), .int (nI va), .ref (z 9)])), (z 2, .inl (k.1 0, 23, .inl (ta_e t))), (z 4, .inl (k.1 0, 66, .inl (ta_e g3)))] := hD
                          refine lv_aload_n hx hb dX8_goes_174 rfl (lv_at hl 3 rfl) ?_
                          refine ta_get C hP 0 inlX8 rfl rfl 4 (by decide) tw_128 rfl dX8_goes_175 ?_
                          refine ta_iconst C 1 dX8_goes_178 (by decide) ?_
                          refine lv_dup2_11 hx hb dX8_goes_179 rfl rfl ?_
                          refine ta_iald C hP 2 rfl (i := 1) (by omega) dX8_goes_180 ?_
                          refine ta_iconst C 1 dX8_goes_181 (by decide) ?_
                          refine ta_iadd C (a := g3 1) (b := 1) dX8_goes_182 ?_
                          refine ta_iast C hP hD hS 2 rfl (i := 1) (v := (g3 1) + 1) (by omega) dX8_goes_183 (fun H locs hP hD hS => ?_)
                          have hP : va_P D vwCl [(z 0, .inr (8, [.ref (z 1), .int (nI ty), .ref (z 2), .ref (z 3), .ref (z 4), .ref (z 5), .int (nI kn), .ref (z 6), .ref (z 7), .ref (z 8), .int (nI no), .int (nI at_), .int (nI so), .int (nI sr), .int (nI va), .ref (z 9)])), (z 2, .inl (k.1 0, 23, .inl (ta_e t))), (z 4, .inl (k.1 0, 66, .inl (ta_e (ta_u g3 1 ((g3 1) + 1)))))] H := hP
                          have hD : va_D A [(z 0, .inr (8, [.ref (z 1), .int (nI ty), .ref (z 2), .ref (z 3), .ref (z 4), .ref (z 5), .int (nI kn), .ref (z 6), .ref (z 7), .ref (z 8), .int (nI no), .int (nI at_), .int (nI so), .int (nI sr), .int (nI va), .ref (z 9)])), (z 2, .inl (k.1 0, 23, .inl (ta_e t))), (z 4, .inl (k.1 0, 66, .inl (ta_e (ta_u g3 1 ((g3 1) + 1)))))] := hD
                          refine lv_aload_n hx hb dX8_goes_184 rfl (lv_at hl 3 rfl) ?_
                          refine ta_get C hP 0 inlX8 rfl rfl 4 (by decide) tw_128 rfl dX8_goes_185 ?_
                          refine ta_iconst C 1 dX8_goes_188 (by decide) ?_
                          refine ta_iald C hP 2 rfl (i := 1) (by omega) dX8_goes_189 ?_
                          refine ta_nv (y := (g3 1) + 1) ta_us ?_
                          refine lv_aload_n hx hb dX8_goes_190 rfl (lv_at hl 3 rfl) ?_
                          refine ta_get C hP 0 inlX8 rfl rfl 2 (by decide) tw_126 rfl dX8_goes_191 ?_
                          refine ta_iconst C 2 dX8_goes_194 (by decide) ?_
                          refine ta_iald C hP 1 rfl (i := 2) (by omega) dX8_goes_195 ?_
                          refine ta_cne C (a := (g3 1) + 1) (b := t 2) (tgt := 216) (by omega) (by omega) dX8_goes_196 (by decide) (fun c158 => ?_) (fun c158 => ?_)
                          · refine lv_iload_n hx hb dX8_goes_216 rfl (lv_at hl 1 rfl) ?_
                            have e : ta_u g3 1 ((g3 1) + 1) = tg_go t g := by rw [ego]; unfold tg_wind; rw [if_neg (by omega)]
                            have ekn : nI 4294967295 = nI (tg_kn g) := by unfold tg_kn; rw [epre, ← ha]; first | rw [if_pos (by omega)] | rw [if_neg (by omega)]
                            rw [e] at hP hD
                            exact ret _ () dX8_goes_217 rfl ekn hP hD hS
                          · refine lv_aload_n hx hb dX8_goes_199 rfl (lv_at hl 3 rfl) ?_
                            refine ta_get C hP 0 inlX8 rfl rfl 4 (by decide) tw_128 rfl dX8_goes_200 ?_
                            refine ta_iconst C 1 dX8_goes_203 (by decide) ?_
                            refine ta_iconst C 0 dX8_goes_204 (by decide) ?_
                            refine ta_iast C hP hD hS 2 rfl (i := 1) (v := 0) (by omega) dX8_goes_205 (fun H locs hP hD hS => ?_)
                            have hP : va_P D vwCl [(z 0, .inr (8, [.ref (z 1), .int (nI ty), .ref (z 2), .ref (z 3), .ref (z 4), .ref (z 5), .int (nI kn), .ref (z 6), .ref (z 7), .ref (z 8), .int (nI no), .int (nI at_), .int (nI so), .int (nI sr), .int (nI va), .ref (z 9)])), (z 2, .inl (k.1 0, 23, .inl (ta_e t))), (z 4, .inl (k.1 0, 66, .inl (ta_e (ta_u (ta_u g3 1 ((g3 1) + 1)) 1 0))))] H := hP
                            have hD : va_D A [(z 0, .inr (8, [.ref (z 1), .int (nI ty), .ref (z 2), .ref (z 3), .ref (z 4), .ref (z 5), .int (nI kn), .ref (z 6), .ref (z 7), .ref (z 8), .int (nI no), .int (nI at_), .int (nI so), .int (nI sr), .int (nI va), .ref (z 9)])), (z 2, .inl (k.1 0, 23, .inl (ta_e t))), (z 4, .inl (k.1 0, 66, .inl (ta_e (ta_u (ta_u g3 1 ((g3 1) + 1)) 1 0))))] := hD
                            refine lv_aload_n hx hb dX8_goes_206 rfl (lv_at hl 3 rfl) ?_
                            refine ta_get C hP 0 inlX8 rfl rfl 4 (by decide) tw_128 rfl dX8_goes_207 ?_
                            refine ta_iconst C 0 dX8_goes_210 (by decide) ?_
                            refine lv_dup2_11 hx hb dX8_goes_211 rfl rfl ?_
                            refine ta_iald C hP 2 rfl (i := 0) (by omega) dX8_goes_212 ?_
                            refine ta_nv (y := (ta_u g3 1 ((g3 1) + 1)) 0) (ta_un (by decide)) ?_
                            refine ta_nv (y := g3 0) (ta_un (by decide)) ?_
                            refine ta_iconst C 1 dX8_goes_213 (by decide) ?_
                            refine ta_iadd C (a := g3 0) (b := 1) dX8_goes_214 ?_
                            refine ta_iast C hP hD hS 2 rfl (i := 0) (v := (g3 0) + 1) (by omega) dX8_goes_215 (fun H locs hP hD hS => ?_)
                            have hP : va_P D vwCl [(z 0, .inr (8, [.ref (z 1), .int (nI ty), .ref (z 2), .ref (z 3), .ref (z 4), .ref (z 5), .int (nI kn), .ref (z 6), .ref (z 7), .ref (z 8), .int (nI no), .int (nI at_), .int (nI so), .int (nI sr), .int (nI va), .ref (z 9)])), (z 2, .inl (k.1 0, 23, .inl (ta_e t))), (z 4, .inl (k.1 0, 66, .inl (ta_e (ta_u (ta_u (ta_u g3 1 ((g3 1) + 1)) 1 0) 0 ((g3 0) + 1)))))] H := hP
                            have hD : va_D A [(z 0, .inr (8, [.ref (z 1), .int (nI ty), .ref (z 2), .ref (z 3), .ref (z 4), .ref (z 5), .int (nI kn), .ref (z 6), .ref (z 7), .ref (z 8), .int (nI no), .int (nI at_), .int (nI so), .int (nI sr), .int (nI va), .ref (z 9)])), (z 2, .inl (k.1 0, 23, .inl (ta_e t))), (z 4, .inl (k.1 0, 66, .inl (ta_e (ta_u (ta_u (ta_u g3 1 ((g3 1) + 1)) 1 0) 0 ((g3 0) + 1)))))] := hD
                            refine lv_iload_n hx hb dX8_goes_216 rfl (lv_at hl 1 rfl) ?_
                            have e : ta_u (ta_u (ta_u g3 1 ((g3 1) + 1)) 1 0) 0 ((g3 0) + 1) = tg_go t g := by rw [ego]; unfold tg_wind; rw [if_pos (by omega), ta_uu]
                            have ekn : nI 4294967295 = nI (tg_kn g) := by unfold tg_kn; rw [epre, ← ha]; first | rw [if_pos (by omega)] | rw [if_neg (by omega)]
                            rw [e] at hP hD
                            exact ret _ () dX8_goes_217 rfl ekn hP hD hS
                      · exact absurd c155 (by decide)
                    · exact absurd c154 (by decide)
                · exact absurd c149 (by decide)
              · exact absurd c148 (by decide)
        · refine ta_nv (y := 2) h4 ?_
          refine lv_istore_n (lv' := [(3, .int (nI 2)), (2, .int (nI 4294967295)), (1, .int (nI 0)), (0, .ref (z 0))]) hx hb dX8_goes_44 rfl hl (by decide) rfl (fun ls hl => ?_)
          refine lv_iload_n hx hb dX8_goes_45 rfl (lv_at hl 0 rfl) ?_
          refine ta_iconst C 4294967295 dX8_goes_46 (by decide) ?_
          refine lv_icmp_eq (tgt := 174) hx hb dX8_goes_47 (by decide) (fun c159 => ?_) (fun c159 => ?_)
          · exact absurd c159 (by decide)
          · refine lv_iload_n hx hb dX8_goes_50 rfl (lv_at hl 0 rfl) ?_
            refine lv_if_eq (tgt := 59) hx hb dX8_goes_51 (by decide) (fun c160 => ?_) (fun c160 => ?_)
            · exact absurd c160 (by decide)
            · refine lv_iload_n hx hb dX8_goes_54 rfl (lv_at hl 0 rfl) ?_
              refine ta_iconst C 2 dX8_goes_55 (by decide) ?_
              refine lv_icmp_ne (tgt := 69) hx hb dX8_goes_56 (by decide) (fun c161 => ?_) (fun c161 => ?_)
              · exact absurd c161 (by decide)
              · refine lv_aload_n hx hb dX8_goes_59 rfl (lv_at hl 3 rfl) ?_
                refine lv_aload_n hx hb dX8_goes_60 rfl (lv_at hl 3 rfl) ?_
                refine ta_get C hP 0 inlX8 rfl rfl 4 (by decide) tw_128 rfl dX8_goes_61 ?_
                refine ta_iconst C 3 dX8_goes_64 (by decide) ?_
                refine ta_iald C hP 2 rfl (i := 3) (by omega) dX8_goes_65 ?_
                refine ta_callVv (As := [.int (nI (g1 3))]) (rest0 := []) (Wr := []) C hP hD hS (c_X8_steps l D k z ty kn no at_ so sr va t g1 (g1 3) hok1 e3) 0 rfl rfl rfl [0, 1, 2] [] rfl rfl (by decide) (by decide) (by decide) tw_489 tw_486 tw_5 tw_487 tw_488 ⟨by decide, by decide, rfl⟩ ⟨Nat.le_of_ble_eq_true rfl, Nat.le_of_ble_eq_true rfl⟩ ⟨Nat.zero_le _, Nat.zero_le _⟩ hl.1 rfl (Nat.le_of_ble_eq_true rfl) dX8_goes_66 (fun u163 H locs h164 hP hD hS => ?_)
                have hP : va_P D vwCl [(z 0, .inr (8, [.ref (z 1), .int (nI ty), .ref (z 2), .ref (z 3), .ref (z 4), .ref (z 5), .int (nI kn), .ref (z 6), .ref (z 7), .ref (z 8), .int (nI no), .int (nI at_), .int (nI so), .int (nI sr), .int (nI va), .ref (z 9)])), (z 2, .inl (k.1 0, 23, .inl (ta_e t))), (z 4, .inl (k.1 0, 66, .inl (ta_e (tg_step t g1 (g1 3)))))] H := hP
                have hD : va_D A [(z 0, .inr (8, [.ref (z 1), .int (nI ty), .ref (z 2), .ref (z 3), .ref (z 4), .ref (z 5), .int (nI kn), .ref (z 6), .ref (z 7), .ref (z 8), .int (nI no), .int (nI at_), .int (nI so), .int (nI sr), .int (nI va), .ref (z 9)])), (z 2, .inl (k.1 0, 23, .inl (ta_e t))), (z 4, .inl (k.1 0, 66, .inl (ta_e (tg_step t g1 (g1 3)))))] := hD
                refine lv_iload_n hx hb dX8_goes_69 rfl (lv_at hl 0 rfl) ?_
                refine ta_iconst C 2 dX8_goes_70 (by decide) ?_
                refine lv_icmp_ne (tgt := 84) hx hb dX8_goes_71 (by decide) (fun c165 => ?_) (fun c165 => ?_)
                · exact absurd c165 (by decide)
                · refine lv_aload_n hx hb dX8_goes_74 rfl (lv_at hl 3 rfl) ?_
                  refine lv_aload_n hx hb dX8_goes_75 rfl (lv_at hl 3 rfl) ?_
                  refine ta_get C hP 0 inlX8 rfl rfl 4 (by decide) tw_128 rfl dX8_goes_76 ?_
                  refine ta_iconst C 3 dX8_goes_79 (by decide) ?_
                  refine ta_iald C hP 2 rfl (i := 3) (by omega) dX8_goes_80 ?_
                  refine ta_callVv (As := [.int (nI ((tg_step t g1 (g1 3)) 3))]) (rest0 := []) (Wr := []) C hP hD hS (c_X8_steps l D k z ty kn no at_ so sr va t (tg_step t g1 (g1 3)) ((tg_step t g1 (g1 3)) 3) (tg_ok_step _ hok1) (by rw [tg_step_k (by omega) e2 (by omega) (by omega)]; exact e3)) 0 rfl rfl rfl [0, 1, 2] [] rfl rfl (by decide) (by decide) (by decide) tw_489 tw_486 tw_5 tw_487 tw_488 ⟨by decide, by decide, rfl⟩ ⟨Nat.le_of_ble_eq_true rfl, Nat.le_of_ble_eq_true rfl⟩ ⟨Nat.zero_le _, Nat.zero_le _⟩ hl.1 rfl (Nat.le_of_ble_eq_true rfl) dX8_goes_81 (fun u167 H locs h168 hP hD hS => ?_)
                  have hP : va_P D vwCl [(z 0, .inr (8, [.ref (z 1), .int (nI ty), .ref (z 2), .ref (z 3), .ref (z 4), .ref (z 5), .int (nI kn), .ref (z 6), .ref (z 7), .ref (z 8), .int (nI no), .int (nI at_), .int (nI so), .int (nI sr), .int (nI va), .ref (z 9)])), (z 2, .inl (k.1 0, 23, .inl (ta_e t))), (z 4, .inl (k.1 0, 66, .inl (ta_e (tg_step t (tg_step t g1 (g1 3)) ((tg_step t g1 (g1 3)) 3)))))] H := hP
                  have hD : va_D A [(z 0, .inr (8, [.ref (z 1), .int (nI ty), .ref (z 2), .ref (z 3), .ref (z 4), .ref (z 5), .int (nI kn), .ref (z 6), .ref (z 7), .ref (z 8), .int (nI no), .int (nI at_), .int (nI so), .int (nI sr), .int (nI va), .ref (z 9)])), (z 2, .inl (k.1 0, 23, .inl (ta_e t))), (z 4, .inl (k.1 0, 66, .inl (ta_e (tg_step t (tg_step t g1 (g1 3)) ((tg_step t g1 (g1 3)) 3)))))] := hD
                  refine lv_iload_n hx hb dX8_goes_84 rfl (lv_at hl 0 rfl) ?_
                  refine ta_iconst C 1 dX8_goes_85 (by decide) ?_
                  refine lv_icmp_ne (tgt := 103) hx hb dX8_goes_86 (by decide) (fun c169 => ?_) (fun c169 => ?_)
                  · refine lv_iload_n hx hb dX8_goes_103 rfl (lv_at hl 0 rfl) ?_
                    refine ta_iconst C 3 dX8_goes_104 (by decide) ?_
                    refine lv_icmp_ne (tgt := 124) hx hb dX8_goes_105 (by decide) (fun c170 => ?_) (fun c170 => ?_)
                    · refine lv_iload_n hx hb dX8_goes_124 rfl (lv_at hl 0 rfl) ?_
                      refine ta_iconst C 4 dX8_goes_125 (by decide) ?_
                      refine lv_icmp_ne (tgt := 144) hx hb dX8_goes_126 (by decide) (fun c171 => ?_) (fun c171 => ?_)
                      · obtain ⟨g2, hg2⟩ : ∃ z, z = tg_step t (tg_step t g1 (g1 3)) ((tg_step t g1 (g1 3)) 3) := ⟨_, rfl⟩
                        rw [← hg2] at hP hD
                        have eact : tg_act t g1 0 = g2 := by rw [hg2, show (tg_step t g1 (g1 3)) 3 = g1 3 from tg_step_k (by omega) e2 (by omega) (by omega)]; unfold tg_act; rw [if_neg (by omega), if_neg (by omega), if_pos h4]
                        have k5 : g2 5 = g1 5 := by rw [← eact]; exact tg_act_k (by omega) e2 (by omega) (by omega) (by omega)
                        have hP : va_P D vwCl [(z 0, .inr (8, [.ref (z 1), .int (nI ty), .ref (z 2), .ref (z 3), .ref (z 4), .ref (z 5), .int (nI kn), .ref (z 6), .ref (z 7), .ref (z 8), .int (nI no), .int (nI at_), .int (nI so), .int (nI sr), .int (nI va), .ref (z 9)])), (z 2, .inl (k.1 0, 23, .inl (ta_e t))), (z 4, .inl (k.1 0, 66, .inl (ta_e g2)))] H := hP
                        have hD : va_D A [(z 0, .inr (8, [.ref (z 1), .int (nI ty), .ref (z 2), .ref (z 3), .ref (z 4), .ref (z 5), .int (nI kn), .ref (z 6), .ref (z 7), .ref (z 8), .int (nI no), .int (nI at_), .int (nI so), .int (nI sr), .int (nI va), .ref (z 9)])), (z 2, .inl (k.1 0, 23, .inl (ta_e t))), (z 4, .inl (k.1 0, 66, .inl (ta_e g2)))] := hD
                        refine lv_aload_n hx hb dX8_goes_144 rfl (lv_at hl 3 rfl) ?_
                        refine ta_get C hP 0 inlX8 rfl rfl 4 (by decide) tw_128 rfl dX8_goes_145 ?_
                        refine ta_iconst C 5 dX8_goes_148 (by decide) ?_
                        refine lv_dup2_11 hx hb dX8_goes_149 rfl rfl ?_
                        refine ta_iald C hP 2 rfl (i := 5) (by omega) dX8_goes_150 ?_
                        refine ta_iconst C 1 dX8_goes_151 (by decide) ?_
                        refine ta_isub C (a := g2 5) (b := 1) (by omega) dX8_goes_152 ?_
                        refine ta_iast C hP hD hS 2 rfl (i := 5) (v := (g2 5) - 1) (by omega) dX8_goes_153 (fun H locs hP hD hS => ?_)
                        have hP : va_P D vwCl [(z 0, .inr (8, [.ref (z 1), .int (nI ty), .ref (z 2), .ref (z 3), .ref (z 4), .ref (z 5), .int (nI kn), .ref (z 6), .ref (z 7), .ref (z 8), .int (nI no), .int (nI at_), .int (nI so), .int (nI sr), .int (nI va), .ref (z 9)])), (z 2, .inl (k.1 0, 23, .inl (ta_e t))), (z 4, .inl (k.1 0, 66, .inl (ta_e (ta_u g2 5 ((g2 5) - 1)))))] H := hP
                        have hD : va_D A [(z 0, .inr (8, [.ref (z 1), .int (nI ty), .ref (z 2), .ref (z 3), .ref (z 4), .ref (z 5), .int (nI kn), .ref (z 6), .ref (z 7), .ref (z 8), .int (nI no), .int (nI at_), .int (nI so), .int (nI sr), .int (nI va), .ref (z 9)])), (z 2, .inl (k.1 0, 23, .inl (ta_e t))), (z 4, .inl (k.1 0, 66, .inl (ta_e (ta_u g2 5 ((g2 5) - 1)))))] := hD
                        refine lv_aload_n hx hb dX8_goes_154 rfl (lv_at hl 3 rfl) ?_
                        refine ta_get C hP 0 inlX8 rfl rfl 4 (by decide) tw_128 rfl dX8_goes_155 ?_
                        refine ta_iconst C 4 dX8_goes_158 (by decide) ?_
                        refine lv_aload_n hx hb dX8_goes_159 rfl (lv_at hl 3 rfl) ?_
                        refine ta_get C hP 0 inlX8 rfl rfl 4 (by decide) tw_128 rfl dX8_goes_160 ?_
                        refine ta_iconst C 5 dX8_goes_163 (by decide) ?_
                        refine ta_iald C hP 2 rfl (i := 5) (by omega) dX8_goes_164 ?_
                        refine ta_nv (y := (g2 5) - 1) ta_us ?_
                        refine ta_ine C (a := (g2 5) - 1) (tgt := 172) (by omega) dX8_goes_165 (by decide) (fun c172 => ?_) (fun c172 => ?_)
                        · refine lv_iload_n hx hb dX8_goes_172 rfl (lv_at hl 0 rfl) ?_
                          refine ta_iast C hP hD hS 2 rfl (i := 4) (v := 2) (by omega) dX8_goes_173 (fun H locs hP hD hS => ?_)
                          have hP : va_P D vwCl [(z 0, .inr (8, [.ref (z 1), .int (nI ty), .ref (z 2), .ref (z 3), .ref (z 4), .ref (z 5), .int (nI kn), .ref (z 6), .ref (z 7), .ref (z 8), .int (nI no), .int (nI at_), .int (nI so), .int (nI sr), .int (nI va), .ref (z 9)])), (z 2, .inl (k.1 0, 23, .inl (ta_e t))), (z 4, .inl (k.1 0, 66, .inl (ta_e (ta_u (ta_u g2 5 ((g2 5) - 1)) 4 2))))] H := hP
                          have hD : va_D A [(z 0, .inr (8, [.ref (z 1), .int (nI ty), .ref (z 2), .ref (z 3), .ref (z 4), .ref (z 5), .int (nI kn), .ref (z 6), .ref (z 7), .ref (z 8), .int (nI no), .int (nI at_), .int (nI so), .int (nI sr), .int (nI va), .ref (z 9)])), (z 2, .inl (k.1 0, 23, .inl (ta_e t))), (z 4, .inl (k.1 0, 66, .inl (ta_e (ta_u (ta_u g2 5 ((g2 5) - 1)) 4 2))))] := hD
                          obtain ⟨g3, hg3⟩ : ∃ z, z = ta_u (ta_u g2 5 ((g2 5) - 1)) 4 2 := ⟨_, rfl⟩
                          rw [← hg3] at hP hD
                          have edo : tg_do t g1 0 = g3 := by unfold tg_do; rw [hg3, eact, k5, if_neg (by omega), h4]
                          have ego : tg_go t g = tg_wind t g3 1 := by unfold tg_go; rw [epre, ← ha, if_neg (by omega), edo]
                          have k1 : g3 1 = g1 1 := by rw [← edo]; exact tg_do_k (by omega) e2 (by omega) (by omega) (by omega) (by omega) (by omega)
                          have hP : va_P D vwCl [(z 0, .inr (8, [.ref (z 1), .int (nI ty), .ref (z 2), .ref (z 3), .ref (z 4), .ref (z 5), .int (nI kn), .ref (z 6), .ref (z 7), .ref (z 8), .int (nI no), .int (nI at_), .int (nI so), .int (nI sr), .int (nI va), .ref (z 9)])), (z 2, .inl (k.1 0, 23, .inl (ta_e t))), (z 4, .inl (k.1 0, 66, .inl (ta_e g3)))] H := hP
                          have hD : va_D A [(z 0, .inr (8, [.ref (z 1), .int (nI ty), .ref (z 2), .ref (z 3), .ref (z 4), .ref (z 5), .int (nI kn), .ref (z 6), .ref (z 7), .ref (z 8), .int (nI no), .int (nI at_), .int (nI so), .int (nI sr), .int (nI va), .ref (z 9)])), (z 2, .inl (k.1 0, 23, .inl (ta_e t))), (z 4, .inl (k.1 0, 66, .inl (ta_e g3)))] := hD
                          refine lv_aload_n hx hb dX8_goes_174 rfl (lv_at hl 3 rfl) ?_
                          refine ta_get C hP 0 inlX8 rfl rfl 4 (by decide) tw_128 rfl dX8_goes_175 ?_
                          refine ta_iconst C 1 dX8_goes_178 (by decide) ?_
                          refine lv_dup2_11 hx hb dX8_goes_179 rfl rfl ?_
                          refine ta_iald C hP 2 rfl (i := 1) (by omega) dX8_goes_180 ?_
                          refine ta_iconst C 1 dX8_goes_181 (by decide) ?_
                          refine ta_iadd C (a := g3 1) (b := 1) dX8_goes_182 ?_
                          refine ta_iast C hP hD hS 2 rfl (i := 1) (v := (g3 1) + 1) (by omega) dX8_goes_183 (fun H locs hP hD hS => ?_)
                          have hP : va_P D vwCl [(z 0, .inr (8, [.ref (z 1), .int (nI ty), .ref (z 2), .ref (z 3), .ref (z 4), .ref (z 5), .int (nI kn), .ref (z 6), .ref (z 7), .ref (z 8), .int (nI no), .int (nI at_), .int (nI so), .int (nI sr), .int (nI va), .ref (z 9)])), (z 2, .inl (k.1 0, 23, .inl (ta_e t))), (z 4, .inl (k.1 0, 66, .inl (ta_e (ta_u g3 1 ((g3 1) + 1)))))] H := hP
                          have hD : va_D A [(z 0, .inr (8, [.ref (z 1), .int (nI ty), .ref (z 2), .ref (z 3), .ref (z 4), .ref (z 5), .int (nI kn), .ref (z 6), .ref (z 7), .ref (z 8), .int (nI no), .int (nI at_), .int (nI so), .int (nI sr), .int (nI va), .ref (z 9)])), (z 2, .inl (k.1 0, 23, .inl (ta_e t))), (z 4, .inl (k.1 0, 66, .inl (ta_e (ta_u g3 1 ((g3 1) + 1)))))] := hD
                          refine lv_aload_n hx hb dX8_goes_184 rfl (lv_at hl 3 rfl) ?_
                          refine ta_get C hP 0 inlX8 rfl rfl 4 (by decide) tw_128 rfl dX8_goes_185 ?_
                          refine ta_iconst C 1 dX8_goes_188 (by decide) ?_
                          refine ta_iald C hP 2 rfl (i := 1) (by omega) dX8_goes_189 ?_
                          refine ta_nv (y := (g3 1) + 1) ta_us ?_
                          refine lv_aload_n hx hb dX8_goes_190 rfl (lv_at hl 3 rfl) ?_
                          refine ta_get C hP 0 inlX8 rfl rfl 2 (by decide) tw_126 rfl dX8_goes_191 ?_
                          refine ta_iconst C 2 dX8_goes_194 (by decide) ?_
                          refine ta_iald C hP 1 rfl (i := 2) (by omega) dX8_goes_195 ?_
                          refine ta_cne C (a := (g3 1) + 1) (b := t 2) (tgt := 216) (by omega) (by omega) dX8_goes_196 (by decide) (fun c173 => ?_) (fun c173 => ?_)
                          · refine lv_iload_n hx hb dX8_goes_216 rfl (lv_at hl 1 rfl) ?_
                            have e : ta_u g3 1 ((g3 1) + 1) = tg_go t g := by rw [ego]; unfold tg_wind; rw [if_neg (by omega)]
                            have ekn : nI 4294967295 = nI (tg_kn g) := by unfold tg_kn; rw [epre, ← ha]; first | rw [if_pos (by omega)] | rw [if_neg (by omega)]
                            rw [e] at hP hD
                            exact ret _ () dX8_goes_217 rfl ekn hP hD hS
                          · refine lv_aload_n hx hb dX8_goes_199 rfl (lv_at hl 3 rfl) ?_
                            refine ta_get C hP 0 inlX8 rfl rfl 4 (by decide) tw_128 rfl dX8_goes_200 ?_
                            refine ta_iconst C 1 dX8_goes_203 (by decide) ?_
                            refine ta_iconst C 0 dX8_goes_204 (by decide) ?_
                            refine ta_iast C hP hD hS 2 rfl (i := 1) (v := 0) (by omega) dX8_goes_205 (fun H locs hP hD hS => ?_)
                            have hP : va_P D vwCl [(z 0, .inr (8, [.ref (z 1), .int (nI ty), .ref (z 2), .ref (z 3), .ref (z 4), .ref (z 5), .int (nI kn), .ref (z 6), .ref (z 7), .ref (z 8), .int (nI no), .int (nI at_), .int (nI so), .int (nI sr), .int (nI va), .ref (z 9)])), (z 2, .inl (k.1 0, 23, .inl (ta_e t))), (z 4, .inl (k.1 0, 66, .inl (ta_e (ta_u (ta_u g3 1 ((g3 1) + 1)) 1 0))))] H := hP
                            have hD : va_D A [(z 0, .inr (8, [.ref (z 1), .int (nI ty), .ref (z 2), .ref (z 3), .ref (z 4), .ref (z 5), .int (nI kn), .ref (z 6), .ref (z 7), .ref (z 8), .int (nI no), .int (nI at_), .int (nI so), .int (nI sr), .int (nI va), .ref (z 9)])), (z 2, .inl (k.1 0, 23, .inl (ta_e t))), (z 4, .inl (k.1 0, 66, .inl (ta_e (ta_u (ta_u g3 1 ((g3 1) + 1)) 1 0))))] := hD
                            refine lv_aload_n hx hb dX8_goes_206 rfl (lv_at hl 3 rfl) ?_
                            refine ta_get C hP 0 inlX8 rfl rfl 4 (by decide) tw_128 rfl dX8_goes_207 ?_
                            refine ta_iconst C 0 dX8_goes_210 (by decide) ?_
                            refine lv_dup2_11 hx hb dX8_goes_211 rfl rfl ?_
                            refine ta_iald C hP 2 rfl (i := 0) (by omega) dX8_goes_212 ?_
                            refine ta_nv (y := (ta_u g3 1 ((g3 1) + 1)) 0) (ta_un (by decide)) ?_
                            refine ta_nv (y := g3 0) (ta_un (by decide)) ?_
                            refine ta_iconst C 1 dX8_goes_213 (by decide) ?_
                            refine ta_iadd C (a := g3 0) (b := 1) dX8_goes_214 ?_
                            refine ta_iast C hP hD hS 2 rfl (i := 0) (v := (g3 0) + 1) (by omega) dX8_goes_215 (fun H locs hP hD hS => ?_)
                            have hP : va_P D vwCl [(z 0, .inr (8, [.ref (z 1), .int (nI ty), .ref (z 2), .ref (z 3), .ref (z 4), .ref (z 5), .int (nI kn), .ref (z 6), .ref (z 7), .ref (z 8), .int (nI no), .int (nI at_), .int (nI so), .int (nI sr), .int (nI va), .ref (z 9)])), (z 2, .inl (k.1 0, 23, .inl (ta_e t))), (z 4, .inl (k.1 0, 66, .inl (ta_e (ta_u (ta_u (ta_u g3 1 ((g3 1) + 1)) 1 0) 0 ((g3 0) + 1)))))] H := hP
                            have hD : va_D A [(z 0, .inr (8, [.ref (z 1), .int (nI ty), .ref (z 2), .ref (z 3), .ref (z 4), .ref (z 5), .int (nI kn), .ref (z 6), .ref (z 7), .ref (z 8), .int (nI no), .int (nI at_), .int (nI so), .int (nI sr), .int (nI va), .ref (z 9)])), (z 2, .inl (k.1 0, 23, .inl (ta_e t))), (z 4, .inl (k.1 0, 66, .inl (ta_e (ta_u (ta_u (ta_u g3 1 ((g3 1) + 1)) 1 0) 0 ((g3 0) + 1)))))] := hD
                            refine lv_iload_n hx hb dX8_goes_216 rfl (lv_at hl 1 rfl) ?_
                            have e : ta_u (ta_u (ta_u g3 1 ((g3 1) + 1)) 1 0) 0 ((g3 0) + 1) = tg_go t g := by rw [ego]; unfold tg_wind; rw [if_pos (by omega), ta_uu]
                            have ekn : nI 4294967295 = nI (tg_kn g) := by unfold tg_kn; rw [epre, ← ha]; first | rw [if_pos (by omega)] | rw [if_neg (by omega)]
                            rw [e] at hP hD
                            exact ret _ () dX8_goes_217 rfl ekn hP hD hS
                        · refine ta_iconst C 4294967295 dX8_goes_168 (by decide) ?_
                          refine lv_goto (tgt := 173) hx hb dX8_goes_169 (by decide) ?_
                          refine ta_iast C hP hD hS 2 rfl (i := 4) (v := 4294967295) (by omega) dX8_goes_173 (fun H locs hP hD hS => ?_)
                          have hP : va_P D vwCl [(z 0, .inr (8, [.ref (z 1), .int (nI ty), .ref (z 2), .ref (z 3), .ref (z 4), .ref (z 5), .int (nI kn), .ref (z 6), .ref (z 7), .ref (z 8), .int (nI no), .int (nI at_), .int (nI so), .int (nI sr), .int (nI va), .ref (z 9)])), (z 2, .inl (k.1 0, 23, .inl (ta_e t))), (z 4, .inl (k.1 0, 66, .inl (ta_e (ta_u (ta_u g2 5 ((g2 5) - 1)) 4 4294967295))))] H := hP
                          have hD : va_D A [(z 0, .inr (8, [.ref (z 1), .int (nI ty), .ref (z 2), .ref (z 3), .ref (z 4), .ref (z 5), .int (nI kn), .ref (z 6), .ref (z 7), .ref (z 8), .int (nI no), .int (nI at_), .int (nI so), .int (nI sr), .int (nI va), .ref (z 9)])), (z 2, .inl (k.1 0, 23, .inl (ta_e t))), (z 4, .inl (k.1 0, 66, .inl (ta_e (ta_u (ta_u g2 5 ((g2 5) - 1)) 4 4294967295))))] := hD
                          obtain ⟨g3, hg3⟩ : ∃ z, z = ta_u (ta_u g2 5 ((g2 5) - 1)) 4 4294967295 := ⟨_, rfl⟩
                          rw [← hg3] at hP hD
                          have edo : tg_do t g1 0 = g3 := by unfold tg_do; rw [hg3, eact, k5, if_pos (by omega)]
                          have ego : tg_go t g = tg_wind t g3 1 := by unfold tg_go; rw [epre, ← ha, if_neg (by omega), edo]
                          have k1 : g3 1 = g1 1 := by rw [← edo]; exact tg_do_k (by omega) e2 (by omega) (by omega) (by omega) (by omega) (by omega)
                          have hP : va_P D vwCl [(z 0, .inr (8, [.ref (z 1), .int (nI ty), .ref (z 2), .ref (z 3), .ref (z 4), .ref (z 5), .int (nI kn), .ref (z 6), .ref (z 7), .ref (z 8), .int (nI no), .int (nI at_), .int (nI so), .int (nI sr), .int (nI va), .ref (z 9)])), (z 2, .inl (k.1 0, 23, .inl (ta_e t))), (z 4, .inl (k.1 0, 66, .inl (ta_e g3)))] H := hP
                          have hD : va_D A [(z 0, .inr (8, [.ref (z 1), .int (nI ty), .ref (z 2), .ref (z 3), .ref (z 4), .ref (z 5), .int (nI kn), .ref (z 6), .ref (z 7), .ref (z 8), .int (nI no), .int (nI at_), .int (nI so), .int (nI sr), .int (nI va), .ref (z 9)])), (z 2, .inl (k.1 0, 23, .inl (ta_e t))), (z 4, .inl (k.1 0, 66, .inl (ta_e g3)))] := hD
                          refine lv_aload_n hx hb dX8_goes_174 rfl (lv_at hl 3 rfl) ?_
                          refine ta_get C hP 0 inlX8 rfl rfl 4 (by decide) tw_128 rfl dX8_goes_175 ?_
                          refine ta_iconst C 1 dX8_goes_178 (by decide) ?_
                          refine lv_dup2_11 hx hb dX8_goes_179 rfl rfl ?_
                          refine ta_iald C hP 2 rfl (i := 1) (by omega) dX8_goes_180 ?_
                          refine ta_iconst C 1 dX8_goes_181 (by decide) ?_
                          refine ta_iadd C (a := g3 1) (b := 1) dX8_goes_182 ?_
                          refine ta_iast C hP hD hS 2 rfl (i := 1) (v := (g3 1) + 1) (by omega) dX8_goes_183 (fun H locs hP hD hS => ?_)
                          have hP : va_P D vwCl [(z 0, .inr (8, [.ref (z 1), .int (nI ty), .ref (z 2), .ref (z 3), .ref (z 4), .ref (z 5), .int (nI kn), .ref (z 6), .ref (z 7), .ref (z 8), .int (nI no), .int (nI at_), .int (nI so), .int (nI sr), .int (nI va), .ref (z 9)])), (z 2, .inl (k.1 0, 23, .inl (ta_e t))), (z 4, .inl (k.1 0, 66, .inl (ta_e (ta_u g3 1 ((g3 1) + 1)))))] H := hP
                          have hD : va_D A [(z 0, .inr (8, [.ref (z 1), .int (nI ty), .ref (z 2), .ref (z 3), .ref (z 4), .ref (z 5), .int (nI kn), .ref (z 6), .ref (z 7), .ref (z 8), .int (nI no), .int (nI at_), .int (nI so), .int (nI sr), .int (nI va), .ref (z 9)])), (z 2, .inl (k.1 0, 23, .inl (ta_e t))), (z 4, .inl (k.1 0, 66, .inl (ta_e (ta_u g3 1 ((g3 1) + 1)))))] := hD
                          refine lv_aload_n hx hb dX8_goes_184 rfl (lv_at hl 3 rfl) ?_
                          refine ta_get C hP 0 inlX8 rfl rfl 4 (by decide) tw_128 rfl dX8_goes_185 ?_
                          refine ta_iconst C 1 dX8_goes_188 (by decide) ?_
                          refine ta_iald C hP 2 rfl (i := 1) (by omega) dX8_goes_189 ?_
                          refine ta_nv (y := (g3 1) + 1) ta_us ?_
                          refine lv_aload_n hx hb dX8_goes_190 rfl (lv_at hl 3 rfl) ?_
                          refine ta_get C hP 0 inlX8 rfl rfl 2 (by decide) tw_126 rfl dX8_goes_191 ?_
                          refine ta_iconst C 2 dX8_goes_194 (by decide) ?_
                          refine ta_iald C hP 1 rfl (i := 2) (by omega) dX8_goes_195 ?_
                          refine ta_cne C (a := (g3 1) + 1) (b := t 2) (tgt := 216) (by omega) (by omega) dX8_goes_196 (by decide) (fun c174 => ?_) (fun c174 => ?_)
                          · refine lv_iload_n hx hb dX8_goes_216 rfl (lv_at hl 1 rfl) ?_
                            have e : ta_u g3 1 ((g3 1) + 1) = tg_go t g := by rw [ego]; unfold tg_wind; rw [if_neg (by omega)]
                            have ekn : nI 4294967295 = nI (tg_kn g) := by unfold tg_kn; rw [epre, ← ha]; first | rw [if_pos (by omega)] | rw [if_neg (by omega)]
                            rw [e] at hP hD
                            exact ret _ () dX8_goes_217 rfl ekn hP hD hS
                          · refine lv_aload_n hx hb dX8_goes_199 rfl (lv_at hl 3 rfl) ?_
                            refine ta_get C hP 0 inlX8 rfl rfl 4 (by decide) tw_128 rfl dX8_goes_200 ?_
                            refine ta_iconst C 1 dX8_goes_203 (by decide) ?_
                            refine ta_iconst C 0 dX8_goes_204 (by decide) ?_
                            refine ta_iast C hP hD hS 2 rfl (i := 1) (v := 0) (by omega) dX8_goes_205 (fun H locs hP hD hS => ?_)
                            have hP : va_P D vwCl [(z 0, .inr (8, [.ref (z 1), .int (nI ty), .ref (z 2), .ref (z 3), .ref (z 4), .ref (z 5), .int (nI kn), .ref (z 6), .ref (z 7), .ref (z 8), .int (nI no), .int (nI at_), .int (nI so), .int (nI sr), .int (nI va), .ref (z 9)])), (z 2, .inl (k.1 0, 23, .inl (ta_e t))), (z 4, .inl (k.1 0, 66, .inl (ta_e (ta_u (ta_u g3 1 ((g3 1) + 1)) 1 0))))] H := hP
                            have hD : va_D A [(z 0, .inr (8, [.ref (z 1), .int (nI ty), .ref (z 2), .ref (z 3), .ref (z 4), .ref (z 5), .int (nI kn), .ref (z 6), .ref (z 7), .ref (z 8), .int (nI no), .int (nI at_), .int (nI so), .int (nI sr), .int (nI va), .ref (z 9)])), (z 2, .inl (k.1 0, 23, .inl (ta_e t))), (z 4, .inl (k.1 0, 66, .inl (ta_e (ta_u (ta_u g3 1 ((g3 1) + 1)) 1 0))))] := hD
                            refine lv_aload_n hx hb dX8_goes_206 rfl (lv_at hl 3 rfl) ?_
                            refine ta_get C hP 0 inlX8 rfl rfl 4 (by decide) tw_128 rfl dX8_goes_207 ?_
                            refine ta_iconst C 0 dX8_goes_210 (by decide) ?_
                            refine lv_dup2_11 hx hb dX8_goes_211 rfl rfl ?_
                            refine ta_iald C hP 2 rfl (i := 0) (by omega) dX8_goes_212 ?_
                            refine ta_nv (y := (ta_u g3 1 ((g3 1) + 1)) 0) (ta_un (by decide)) ?_
                            refine ta_nv (y := g3 0) (ta_un (by decide)) ?_
                            refine ta_iconst C 1 dX8_goes_213 (by decide) ?_
                            refine ta_iadd C (a := g3 0) (b := 1) dX8_goes_214 ?_
                            refine ta_iast C hP hD hS 2 rfl (i := 0) (v := (g3 0) + 1) (by omega) dX8_goes_215 (fun H locs hP hD hS => ?_)
                            have hP : va_P D vwCl [(z 0, .inr (8, [.ref (z 1), .int (nI ty), .ref (z 2), .ref (z 3), .ref (z 4), .ref (z 5), .int (nI kn), .ref (z 6), .ref (z 7), .ref (z 8), .int (nI no), .int (nI at_), .int (nI so), .int (nI sr), .int (nI va), .ref (z 9)])), (z 2, .inl (k.1 0, 23, .inl (ta_e t))), (z 4, .inl (k.1 0, 66, .inl (ta_e (ta_u (ta_u (ta_u g3 1 ((g3 1) + 1)) 1 0) 0 ((g3 0) + 1)))))] H := hP
                            have hD : va_D A [(z 0, .inr (8, [.ref (z 1), .int (nI ty), .ref (z 2), .ref (z 3), .ref (z 4), .ref (z 5), .int (nI kn), .ref (z 6), .ref (z 7), .ref (z 8), .int (nI no), .int (nI at_), .int (nI so), .int (nI sr), .int (nI va), .ref (z 9)])), (z 2, .inl (k.1 0, 23, .inl (ta_e t))), (z 4, .inl (k.1 0, 66, .inl (ta_e (ta_u (ta_u (ta_u g3 1 ((g3 1) + 1)) 1 0) 0 ((g3 0) + 1)))))] := hD
                            refine lv_iload_n hx hb dX8_goes_216 rfl (lv_at hl 1 rfl) ?_
                            have e : ta_u (ta_u (ta_u g3 1 ((g3 1) + 1)) 1 0) 0 ((g3 0) + 1) = tg_go t g := by rw [ego]; unfold tg_wind; rw [if_pos (by omega), ta_uu]
                            have ekn : nI 4294967295 = nI (tg_kn g) := by unfold tg_kn; rw [epre, ← ha]; first | rw [if_pos (by omega)] | rw [if_neg (by omega)]
                            rw [e] at hP hD
                            exact ret _ () dX8_goes_217 rfl ekn hP hD hS
                      · exact absurd c171 (by decide)
                    · exact absurd c170 (by decide)
                  · exact absurd c169 (by decide)
        · refine ta_nv (y := 3) h4 ?_
          refine lv_istore_n (lv' := [(3, .int (nI 3)), (2, .int (nI 4294967295)), (1, .int (nI 0)), (0, .ref (z 0))]) hx hb dX8_goes_44 rfl hl (by decide) rfl (fun ls hl => ?_)
          refine lv_iload_n hx hb dX8_goes_45 rfl (lv_at hl 0 rfl) ?_
          refine ta_iconst C 4294967295 dX8_goes_46 (by decide) ?_
          refine lv_icmp_eq (tgt := 174) hx hb dX8_goes_47 (by decide) (fun c175 => ?_) (fun c175 => ?_)
          · exact absurd c175 (by decide)
          · refine lv_iload_n hx hb dX8_goes_50 rfl (lv_at hl 0 rfl) ?_
            refine lv_if_eq (tgt := 59) hx hb dX8_goes_51 (by decide) (fun c176 => ?_) (fun c176 => ?_)
            · exact absurd c176 (by decide)
            · refine lv_iload_n hx hb dX8_goes_54 rfl (lv_at hl 0 rfl) ?_
              refine ta_iconst C 2 dX8_goes_55 (by decide) ?_
              refine lv_icmp_ne (tgt := 69) hx hb dX8_goes_56 (by decide) (fun c177 => ?_) (fun c177 => ?_)
              · refine lv_iload_n hx hb dX8_goes_69 rfl (lv_at hl 0 rfl) ?_
                refine ta_iconst C 2 dX8_goes_70 (by decide) ?_
                refine lv_icmp_ne (tgt := 84) hx hb dX8_goes_71 (by decide) (fun c178 => ?_) (fun c178 => ?_)
                · refine lv_iload_n hx hb dX8_goes_84 rfl (lv_at hl 0 rfl) ?_
                  refine ta_iconst C 1 dX8_goes_85 (by decide) ?_
                  refine lv_icmp_ne (tgt := 103) hx hb dX8_goes_86 (by decide) (fun c179 => ?_) (fun c179 => ?_)
                  · refine lv_iload_n hx hb dX8_goes_103 rfl (lv_at hl 0 rfl) ?_
                    refine ta_iconst C 3 dX8_goes_104 (by decide) ?_
                    refine lv_icmp_ne (tgt := 124) hx hb dX8_goes_105 (by decide) (fun c180 => ?_) (fun c180 => ?_)
                    · exact absurd c180 (by decide)
                    · refine lv_aload_n hx hb dX8_goes_108 rfl (lv_at hl 3 rfl) ?_
                      refine ta_get C hP 0 inlX8 rfl rfl 4 (by decide) tw_128 rfl dX8_goes_109 ?_
                      refine ta_iconst C 3 dX8_goes_112 (by decide) ?_
                      refine lv_aload_n hx hb dX8_goes_113 rfl (lv_at hl 3 rfl) ?_
                      refine ta_get C hP 0 inlX8 rfl rfl 4 (by decide) tw_128 rfl dX8_goes_114 ?_
                      refine ta_iconst C 3 dX8_goes_117 (by decide) ?_
                      refine ta_iald C hP 2 rfl (i := 3) (by omega) dX8_goes_118 ?_
                      refine ta_iconst C 1 dX8_goes_119 (by decide) ?_
                      refine ta_iadd C (a := g1 3) (b := 1) dX8_goes_120 ?_
                      refine ta_iconst C 4 dX8_goes_121 (by decide) ?_
                      refine ta_irem C (a := (g1 3) + 1) (b := 4) (by omega) (by omega) (by omega) dX8_goes_122 ?_
                      refine ta_iast C hP hD hS 2 rfl (i := 3) (v := ((g1 3) + 1) % 4) (by omega) dX8_goes_123 (fun H locs hP hD hS => ?_)
                      have hP : va_P D vwCl [(z 0, .inr (8, [.ref (z 1), .int (nI ty), .ref (z 2), .ref (z 3), .ref (z 4), .ref (z 5), .int (nI kn), .ref (z 6), .ref (z 7), .ref (z 8), .int (nI no), .int (nI at_), .int (nI so), .int (nI sr), .int (nI va), .ref (z 9)])), (z 2, .inl (k.1 0, 23, .inl (ta_e t))), (z 4, .inl (k.1 0, 66, .inl (ta_e (ta_u g1 3 (((g1 3) + 1) % 4)))))] H := hP
                      have hD : va_D A [(z 0, .inr (8, [.ref (z 1), .int (nI ty), .ref (z 2), .ref (z 3), .ref (z 4), .ref (z 5), .int (nI kn), .ref (z 6), .ref (z 7), .ref (z 8), .int (nI no), .int (nI at_), .int (nI so), .int (nI sr), .int (nI va), .ref (z 9)])), (z 2, .inl (k.1 0, 23, .inl (ta_e t))), (z 4, .inl (k.1 0, 66, .inl (ta_e (ta_u g1 3 (((g1 3) + 1) % 4)))))] := hD
                      refine lv_iload_n hx hb dX8_goes_124 rfl (lv_at hl 0 rfl) ?_
                      refine ta_iconst C 4 dX8_goes_125 (by decide) ?_
                      refine lv_icmp_ne (tgt := 144) hx hb dX8_goes_126 (by decide) (fun c181 => ?_) (fun c181 => ?_)
                      · obtain ⟨g2, hg2⟩ : ∃ z, z = ta_u g1 3 (((g1 3) + 1) % 4) := ⟨_, rfl⟩
                        rw [← hg2] at hP hD
                        have eact : tg_act t g1 0 = g2 := by rw [hg2]; unfold tg_act; rw [if_neg (by omega), if_neg (by omega), if_neg (by omega), if_pos h4]
                        have k5 : g2 5 = g1 5 := by rw [← eact]; exact tg_act_k (by omega) e2 (by omega) (by omega) (by omega)
                        have hP : va_P D vwCl [(z 0, .inr (8, [.ref (z 1), .int (nI ty), .ref (z 2), .ref (z 3), .ref (z 4), .ref (z 5), .int (nI kn), .ref (z 6), .ref (z 7), .ref (z 8), .int (nI no), .int (nI at_), .int (nI so), .int (nI sr), .int (nI va), .ref (z 9)])), (z 2, .inl (k.1 0, 23, .inl (ta_e t))), (z 4, .inl (k.1 0, 66, .inl (ta_e g2)))] H := hP
                        have hD : va_D A [(z 0, .inr (8, [.ref (z 1), .int (nI ty), .ref (z 2), .ref (z 3), .ref (z 4), .ref (z 5), .int (nI kn), .ref (z 6), .ref (z 7), .ref (z 8), .int (nI no), .int (nI at_), .int (nI so), .int (nI sr), .int (nI va), .ref (z 9)])), (z 2, .inl (k.1 0, 23, .inl (ta_e t))), (z 4, .inl (k.1 0, 66, .inl (ta_e g2)))] := hD
                        refine lv_aload_n hx hb dX8_goes_144 rfl (lv_at hl 3 rfl) ?_
                        refine ta_get C hP 0 inlX8 rfl rfl 4 (by decide) tw_128 rfl dX8_goes_145 ?_
                        refine ta_iconst C 5 dX8_goes_148 (by decide) ?_
                        refine lv_dup2_11 hx hb dX8_goes_149 rfl rfl ?_
                        refine ta_iald C hP 2 rfl (i := 5) (by omega) dX8_goes_150 ?_
                        refine ta_iconst C 1 dX8_goes_151 (by decide) ?_
                        refine ta_isub C (a := g2 5) (b := 1) (by omega) dX8_goes_152 ?_
                        refine ta_iast C hP hD hS 2 rfl (i := 5) (v := (g2 5) - 1) (by omega) dX8_goes_153 (fun H locs hP hD hS => ?_)
                        have hP : va_P D vwCl [(z 0, .inr (8, [.ref (z 1), .int (nI ty), .ref (z 2), .ref (z 3), .ref (z 4), .ref (z 5), .int (nI kn), .ref (z 6), .ref (z 7), .ref (z 8), .int (nI no), .int (nI at_), .int (nI so), .int (nI sr), .int (nI va), .ref (z 9)])), (z 2, .inl (k.1 0, 23, .inl (ta_e t))), (z 4, .inl (k.1 0, 66, .inl (ta_e (ta_u g2 5 ((g2 5) - 1)))))] H := hP
                        have hD : va_D A [(z 0, .inr (8, [.ref (z 1), .int (nI ty), .ref (z 2), .ref (z 3), .ref (z 4), .ref (z 5), .int (nI kn), .ref (z 6), .ref (z 7), .ref (z 8), .int (nI no), .int (nI at_), .int (nI so), .int (nI sr), .int (nI va), .ref (z 9)])), (z 2, .inl (k.1 0, 23, .inl (ta_e t))), (z 4, .inl (k.1 0, 66, .inl (ta_e (ta_u g2 5 ((g2 5) - 1)))))] := hD
                        refine lv_aload_n hx hb dX8_goes_154 rfl (lv_at hl 3 rfl) ?_
                        refine ta_get C hP 0 inlX8 rfl rfl 4 (by decide) tw_128 rfl dX8_goes_155 ?_
                        refine ta_iconst C 4 dX8_goes_158 (by decide) ?_
                        refine lv_aload_n hx hb dX8_goes_159 rfl (lv_at hl 3 rfl) ?_
                        refine ta_get C hP 0 inlX8 rfl rfl 4 (by decide) tw_128 rfl dX8_goes_160 ?_
                        refine ta_iconst C 5 dX8_goes_163 (by decide) ?_
                        refine ta_iald C hP 2 rfl (i := 5) (by omega) dX8_goes_164 ?_
                        refine ta_nv (y := (g2 5) - 1) ta_us ?_
                        refine ta_ine C (a := (g2 5) - 1) (tgt := 172) (by omega) dX8_goes_165 (by decide) (fun c182 => ?_) (fun c182 => ?_)
                        · refine lv_iload_n hx hb dX8_goes_172 rfl (lv_at hl 0 rfl) ?_
                          refine ta_iast C hP hD hS 2 rfl (i := 4) (v := 3) (by omega) dX8_goes_173 (fun H locs hP hD hS => ?_)
                          have hP : va_P D vwCl [(z 0, .inr (8, [.ref (z 1), .int (nI ty), .ref (z 2), .ref (z 3), .ref (z 4), .ref (z 5), .int (nI kn), .ref (z 6), .ref (z 7), .ref (z 8), .int (nI no), .int (nI at_), .int (nI so), .int (nI sr), .int (nI va), .ref (z 9)])), (z 2, .inl (k.1 0, 23, .inl (ta_e t))), (z 4, .inl (k.1 0, 66, .inl (ta_e (ta_u (ta_u g2 5 ((g2 5) - 1)) 4 3))))] H := hP
                          have hD : va_D A [(z 0, .inr (8, [.ref (z 1), .int (nI ty), .ref (z 2), .ref (z 3), .ref (z 4), .ref (z 5), .int (nI kn), .ref (z 6), .ref (z 7), .ref (z 8), .int (nI no), .int (nI at_), .int (nI so), .int (nI sr), .int (nI va), .ref (z 9)])), (z 2, .inl (k.1 0, 23, .inl (ta_e t))), (z 4, .inl (k.1 0, 66, .inl (ta_e (ta_u (ta_u g2 5 ((g2 5) - 1)) 4 3))))] := hD
                          obtain ⟨g3, hg3⟩ : ∃ z, z = ta_u (ta_u g2 5 ((g2 5) - 1)) 4 3 := ⟨_, rfl⟩
                          rw [← hg3] at hP hD
                          have edo : tg_do t g1 0 = g3 := by unfold tg_do; rw [hg3, eact, k5, if_neg (by omega), h4]
                          have ego : tg_go t g = tg_wind t g3 1 := by unfold tg_go; rw [epre, ← ha, if_neg (by omega), edo]
                          have k1 : g3 1 = g1 1 := by rw [← edo]; exact tg_do_k (by omega) e2 (by omega) (by omega) (by omega) (by omega) (by omega)
                          have hP : va_P D vwCl [(z 0, .inr (8, [.ref (z 1), .int (nI ty), .ref (z 2), .ref (z 3), .ref (z 4), .ref (z 5), .int (nI kn), .ref (z 6), .ref (z 7), .ref (z 8), .int (nI no), .int (nI at_), .int (nI so), .int (nI sr), .int (nI va), .ref (z 9)])), (z 2, .inl (k.1 0, 23, .inl (ta_e t))), (z 4, .inl (k.1 0, 66, .inl (ta_e g3)))] H := hP
                          have hD : va_D A [(z 0, .inr (8, [.ref (z 1), .int (nI ty), .ref (z 2), .ref (z 3), .ref (z 4), .ref (z 5), .int (nI kn), .ref (z 6), .ref (z 7), .ref (z 8), .int (nI no), .int (nI at_), .int (nI so), .int (nI sr), .int (nI va), .ref (z 9)])), (z 2, .inl (k.1 0, 23, .inl (ta_e t))), (z 4, .inl (k.1 0, 66, .inl (ta_e g3)))] := hD
                          refine lv_aload_n hx hb dX8_goes_174 rfl (lv_at hl 3 rfl) ?_
                          refine ta_get C hP 0 inlX8 rfl rfl 4 (by decide) tw_128 rfl dX8_goes_175 ?_
                          refine ta_iconst C 1 dX8_goes_178 (by decide) ?_
                          refine lv_dup2_11 hx hb dX8_goes_179 rfl rfl ?_
                          refine ta_iald C hP 2 rfl (i := 1) (by omega) dX8_goes_180 ?_
                          refine ta_iconst C 1 dX8_goes_181 (by decide) ?_
                          refine ta_iadd C (a := g3 1) (b := 1) dX8_goes_182 ?_
                          refine ta_iast C hP hD hS 2 rfl (i := 1) (v := (g3 1) + 1) (by omega) dX8_goes_183 (fun H locs hP hD hS => ?_)
                          have hP : va_P D vwCl [(z 0, .inr (8, [.ref (z 1), .int (nI ty), .ref (z 2), .ref (z 3), .ref (z 4), .ref (z 5), .int (nI kn), .ref (z 6), .ref (z 7), .ref (z 8), .int (nI no), .int (nI at_), .int (nI so), .int (nI sr), .int (nI va), .ref (z 9)])), (z 2, .inl (k.1 0, 23, .inl (ta_e t))), (z 4, .inl (k.1 0, 66, .inl (ta_e (ta_u g3 1 ((g3 1) + 1)))))] H := hP
                          have hD : va_D A [(z 0, .inr (8, [.ref (z 1), .int (nI ty), .ref (z 2), .ref (z 3), .ref (z 4), .ref (z 5), .int (nI kn), .ref (z 6), .ref (z 7), .ref (z 8), .int (nI no), .int (nI at_), .int (nI so), .int (nI sr), .int (nI va), .ref (z 9)])), (z 2, .inl (k.1 0, 23, .inl (ta_e t))), (z 4, .inl (k.1 0, 66, .inl (ta_e (ta_u g3 1 ((g3 1) + 1)))))] := hD
                          refine lv_aload_n hx hb dX8_goes_184 rfl (lv_at hl 3 rfl) ?_
                          refine ta_get C hP 0 inlX8 rfl rfl 4 (by decide) tw_128 rfl dX8_goes_185 ?_
                          refine ta_iconst C 1 dX8_goes_188 (by decide) ?_
                          refine ta_iald C hP 2 rfl (i := 1) (by omega) dX8_goes_189 ?_
                          refine ta_nv (y := (g3 1) + 1) ta_us ?_
                          refine lv_aload_n hx hb dX8_goes_190 rfl (lv_at hl 3 rfl) ?_
                          refine ta_get C hP 0 inlX8 rfl rfl 2 (by decide) tw_126 rfl dX8_goes_191 ?_
                          refine ta_iconst C 2 dX8_goes_194 (by decide) ?_
                          refine ta_iald C hP 1 rfl (i := 2) (by omega) dX8_goes_195 ?_
                          refine ta_cne C (a := (g3 1) + 1) (b := t 2) (tgt := 216) (by omega) (by omega) dX8_goes_196 (by decide) (fun c183 => ?_) (fun c183 => ?_)
                          · refine lv_iload_n hx hb dX8_goes_216 rfl (lv_at hl 1 rfl) ?_
                            have e : ta_u g3 1 ((g3 1) + 1) = tg_go t g := by rw [ego]; unfold tg_wind; rw [if_neg (by omega)]
                            have ekn : nI 4294967295 = nI (tg_kn g) := by unfold tg_kn; rw [epre, ← ha]; first | rw [if_pos (by omega)] | rw [if_neg (by omega)]
                            rw [e] at hP hD
                            exact ret _ () dX8_goes_217 rfl ekn hP hD hS
                          · refine lv_aload_n hx hb dX8_goes_199 rfl (lv_at hl 3 rfl) ?_
                            refine ta_get C hP 0 inlX8 rfl rfl 4 (by decide) tw_128 rfl dX8_goes_200 ?_
                            refine ta_iconst C 1 dX8_goes_203 (by decide) ?_
                            refine ta_iconst C 0 dX8_goes_204 (by decide) ?_
                            refine ta_iast C hP hD hS 2 rfl (i := 1) (v := 0) (by omega) dX8_goes_205 (fun H locs hP hD hS => ?_)
                            have hP : va_P D vwCl [(z 0, .inr (8, [.ref (z 1), .int (nI ty), .ref (z 2), .ref (z 3), .ref (z 4), .ref (z 5), .int (nI kn), .ref (z 6), .ref (z 7), .ref (z 8), .int (nI no), .int (nI at_), .int (nI so), .int (nI sr), .int (nI va), .ref (z 9)])), (z 2, .inl (k.1 0, 23, .inl (ta_e t))), (z 4, .inl (k.1 0, 66, .inl (ta_e (ta_u (ta_u g3 1 ((g3 1) + 1)) 1 0))))] H := hP
                            have hD : va_D A [(z 0, .inr (8, [.ref (z 1), .int (nI ty), .ref (z 2), .ref (z 3), .ref (z 4), .ref (z 5), .int (nI kn), .ref (z 6), .ref (z 7), .ref (z 8), .int (nI no), .int (nI at_), .int (nI so), .int (nI sr), .int (nI va), .ref (z 9)])), (z 2, .inl (k.1 0, 23, .inl (ta_e t))), (z 4, .inl (k.1 0, 66, .inl (ta_e (ta_u (ta_u g3 1 ((g3 1) + 1)) 1 0))))] := hD
                            refine lv_aload_n hx hb dX8_goes_206 rfl (lv_at hl 3 rfl) ?_
                            refine ta_get C hP 0 inlX8 rfl rfl 4 (by decide) tw_128 rfl dX8_goes_207 ?_
                            refine ta_iconst C 0 dX8_goes_210 (by decide) ?_
                            refine lv_dup2_11 hx hb dX8_goes_211 rfl rfl ?_
                            refine ta_iald C hP 2 rfl (i := 0) (by omega) dX8_goes_212 ?_
                            refine ta_nv (y := (ta_u g3 1 ((g3 1) + 1)) 0) (ta_un (by decide)) ?_
                            refine ta_nv (y := g3 0) (ta_un (by decide)) ?_
                            refine ta_iconst C 1 dX8_goes_213 (by decide) ?_
                            refine ta_iadd C (a := g3 0) (b := 1) dX8_goes_214 ?_
                            refine ta_iast C hP hD hS 2 rfl (i := 0) (v := (g3 0) + 1) (by omega) dX8_goes_215 (fun H locs hP hD hS => ?_)
                            have hP : va_P D vwCl [(z 0, .inr (8, [.ref (z 1), .int (nI ty), .ref (z 2), .ref (z 3), .ref (z 4), .ref (z 5), .int (nI kn), .ref (z 6), .ref (z 7), .ref (z 8), .int (nI no), .int (nI at_), .int (nI so), .int (nI sr), .int (nI va), .ref (z 9)])), (z 2, .inl (k.1 0, 23, .inl (ta_e t))), (z 4, .inl (k.1 0, 66, .inl (ta_e (ta_u (ta_u (ta_u g3 1 ((g3 1) + 1)) 1 0) 0 ((g3 0) + 1)))))] H := hP
                            have hD : va_D A [(z 0, .inr (8, [.ref (z 1), .int (nI ty), .ref (z 2), .ref (z 3), .ref (z 4), .ref (z 5), .int (nI kn), .ref (z 6), .ref (z 7), .ref (z 8), .int (nI no), .int (nI at_), .int (nI so), .int (nI sr), .int (nI va), .ref (z 9)])), (z 2, .inl (k.1 0, 23, .inl (ta_e t))), (z 4, .inl (k.1 0, 66, .inl (ta_e (ta_u (ta_u (ta_u g3 1 ((g3 1) + 1)) 1 0) 0 ((g3 0) + 1)))))] := hD
                            refine lv_iload_n hx hb dX8_goes_216 rfl (lv_at hl 1 rfl) ?_
                            have e : ta_u (ta_u (ta_u g3 1 ((g3 1) + 1)) 1 0) 0 ((g3 0) + 1) = tg_go t g := by rw [ego]; unfold tg_wind; rw [if_pos (by omega), ta_uu]
                            have ekn : nI 4294967295 = nI (tg_kn g) := by unfold tg_kn; rw [epre, ← ha]; first | rw [if_pos (by omega)] | rw [if_neg (by omega)]
                            rw [e] at hP hD
                            exact ret _ () dX8_goes_217 rfl ekn hP hD hS
                        · refine ta_iconst C 4294967295 dX8_goes_168 (by decide) ?_
                          refine lv_goto (tgt := 173) hx hb dX8_goes_169 (by decide) ?_
                          refine ta_iast C hP hD hS 2 rfl (i := 4) (v := 4294967295) (by omega) dX8_goes_173 (fun H locs hP hD hS => ?_)
                          have hP : va_P D vwCl [(z 0, .inr (8, [.ref (z 1), .int (nI ty), .ref (z 2), .ref (z 3), .ref (z 4), .ref (z 5), .int (nI kn), .ref (z 6), .ref (z 7), .ref (z 8), .int (nI no), .int (nI at_), .int (nI so), .int (nI sr), .int (nI va), .ref (z 9)])), (z 2, .inl (k.1 0, 23, .inl (ta_e t))), (z 4, .inl (k.1 0, 66, .inl (ta_e (ta_u (ta_u g2 5 ((g2 5) - 1)) 4 4294967295))))] H := hP
                          have hD : va_D A [(z 0, .inr (8, [.ref (z 1), .int (nI ty), .ref (z 2), .ref (z 3), .ref (z 4), .ref (z 5), .int (nI kn), .ref (z 6), .ref (z 7), .ref (z 8), .int (nI no), .int (nI at_), .int (nI so), .int (nI sr), .int (nI va), .ref (z 9)])), (z 2, .inl (k.1 0, 23, .inl (ta_e t))), (z 4, .inl (k.1 0, 66, .inl (ta_e (ta_u (ta_u g2 5 ((g2 5) - 1)) 4 4294967295))))] := hD
                          obtain ⟨g3, hg3⟩ : ∃ z, z = ta_u (ta_u g2 5 ((g2 5) - 1)) 4 4294967295 := ⟨_, rfl⟩
                          rw [← hg3] at hP hD
                          have edo : tg_do t g1 0 = g3 := by unfold tg_do; rw [hg3, eact, k5, if_pos (by omega)]
                          have ego : tg_go t g = tg_wind t g3 1 := by unfold tg_go; rw [epre, ← ha, if_neg (by omega), edo]
                          have k1 : g3 1 = g1 1 := by rw [← edo]; exact tg_do_k (by omega) e2 (by omega) (by omega) (by omega) (by omega) (by omega)
                          have hP : va_P D vwCl [(z 0, .inr (8, [.ref (z 1), .int (nI ty), .ref (z 2), .ref (z 3), .ref (z 4), .ref (z 5), .int (nI kn), .ref (z 6), .ref (z 7), .ref (z 8), .int (nI no), .int (nI at_), .int (nI so), .int (nI sr), .int (nI va), .ref (z 9)])), (z 2, .inl (k.1 0, 23, .inl (ta_e t))), (z 4, .inl (k.1 0, 66, .inl (ta_e g3)))] H := hP
                          have hD : va_D A [(z 0, .inr (8, [.ref (z 1), .int (nI ty), .ref (z 2), .ref (z 3), .ref (z 4), .ref (z 5), .int (nI kn), .ref (z 6), .ref (z 7), .ref (z 8), .int (nI no), .int (nI at_), .int (nI so), .int (nI sr), .int (nI va), .ref (z 9)])), (z 2, .inl (k.1 0, 23, .inl (ta_e t))), (z 4, .inl (k.1 0, 66, .inl (ta_e g3)))] := hD
                          refine lv_aload_n hx hb dX8_goes_174 rfl (lv_at hl 3 rfl) ?_
                          refine ta_get C hP 0 inlX8 rfl rfl 4 (by decide) tw_128 rfl dX8_goes_175 ?_
                          refine ta_iconst C 1 dX8_goes_178 (by decide) ?_
                          refine lv_dup2_11 hx hb dX8_goes_179 rfl rfl ?_
                          refine ta_iald C hP 2 rfl (i := 1) (by omega) dX8_goes_180 ?_
                          refine ta_iconst C 1 dX8_goes_181 (by decide) ?_
                          refine ta_iadd C (a := g3 1) (b := 1) dX8_goes_182 ?_
                          refine ta_iast C hP hD hS 2 rfl (i := 1) (v := (g3 1) + 1) (by omega) dX8_goes_183 (fun H locs hP hD hS => ?_)
                          have hP : va_P D vwCl [(z 0, .inr (8, [.ref (z 1), .int (nI ty), .ref (z 2), .ref (z 3), .ref (z 4), .ref (z 5), .int (nI kn), .ref (z 6), .ref (z 7), .ref (z 8), .int (nI no), .int (nI at_), .int (nI so), .int (nI sr), .int (nI va), .ref (z 9)])), (z 2, .inl (k.1 0, 23, .inl (ta_e t))), (z 4, .inl (k.1 0, 66, .inl (ta_e (ta_u g3 1 ((g3 1) + 1)))))] H := hP
                          have hD : va_D A [(z 0, .inr (8, [.ref (z 1), .int (nI ty), .ref (z 2), .ref (z 3), .ref (z 4), .ref (z 5), .int (nI kn), .ref (z 6), .ref (z 7), .ref (z 8), .int (nI no), .int (nI at_), .int (nI so), .int (nI sr), .int (nI va), .ref (z 9)])), (z 2, .inl (k.1 0, 23, .inl (ta_e t))), (z 4, .inl (k.1 0, 66, .inl (ta_e (ta_u g3 1 ((g3 1) + 1)))))] := hD
                          refine lv_aload_n hx hb dX8_goes_184 rfl (lv_at hl 3 rfl) ?_
                          refine ta_get C hP 0 inlX8 rfl rfl 4 (by decide) tw_128 rfl dX8_goes_185 ?_
                          refine ta_iconst C 1 dX8_goes_188 (by decide) ?_
                          refine ta_iald C hP 2 rfl (i := 1) (by omega) dX8_goes_189 ?_
                          refine ta_nv (y := (g3 1) + 1) ta_us ?_
                          refine lv_aload_n hx hb dX8_goes_190 rfl (lv_at hl 3 rfl) ?_
                          refine ta_get C hP 0 inlX8 rfl rfl 2 (by decide) tw_126 rfl dX8_goes_191 ?_
                          refine ta_iconst C 2 dX8_goes_194 (by decide) ?_
                          refine ta_iald C hP 1 rfl (i := 2) (by omega) dX8_goes_195 ?_
                          refine ta_cne C (a := (g3 1) + 1) (b := t 2) (tgt := 216) (by omega) (by omega) dX8_goes_196 (by decide) (fun c184 => ?_) (fun c184 => ?_)
                          · refine lv_iload_n hx hb dX8_goes_216 rfl (lv_at hl 1 rfl) ?_
                            have e : ta_u g3 1 ((g3 1) + 1) = tg_go t g := by rw [ego]; unfold tg_wind; rw [if_neg (by omega)]
                            have ekn : nI 4294967295 = nI (tg_kn g) := by unfold tg_kn; rw [epre, ← ha]; first | rw [if_pos (by omega)] | rw [if_neg (by omega)]
                            rw [e] at hP hD
                            exact ret _ () dX8_goes_217 rfl ekn hP hD hS
                          · refine lv_aload_n hx hb dX8_goes_199 rfl (lv_at hl 3 rfl) ?_
                            refine ta_get C hP 0 inlX8 rfl rfl 4 (by decide) tw_128 rfl dX8_goes_200 ?_
                            refine ta_iconst C 1 dX8_goes_203 (by decide) ?_
                            refine ta_iconst C 0 dX8_goes_204 (by decide) ?_
                            refine ta_iast C hP hD hS 2 rfl (i := 1) (v := 0) (by omega) dX8_goes_205 (fun H locs hP hD hS => ?_)
                            have hP : va_P D vwCl [(z 0, .inr (8, [.ref (z 1), .int (nI ty), .ref (z 2), .ref (z 3), .ref (z 4), .ref (z 5), .int (nI kn), .ref (z 6), .ref (z 7), .ref (z 8), .int (nI no), .int (nI at_), .int (nI so), .int (nI sr), .int (nI va), .ref (z 9)])), (z 2, .inl (k.1 0, 23, .inl (ta_e t))), (z 4, .inl (k.1 0, 66, .inl (ta_e (ta_u (ta_u g3 1 ((g3 1) + 1)) 1 0))))] H := hP
                            have hD : va_D A [(z 0, .inr (8, [.ref (z 1), .int (nI ty), .ref (z 2), .ref (z 3), .ref (z 4), .ref (z 5), .int (nI kn), .ref (z 6), .ref (z 7), .ref (z 8), .int (nI no), .int (nI at_), .int (nI so), .int (nI sr), .int (nI va), .ref (z 9)])), (z 2, .inl (k.1 0, 23, .inl (ta_e t))), (z 4, .inl (k.1 0, 66, .inl (ta_e (ta_u (ta_u g3 1 ((g3 1) + 1)) 1 0))))] := hD
                            refine lv_aload_n hx hb dX8_goes_206 rfl (lv_at hl 3 rfl) ?_
                            refine ta_get C hP 0 inlX8 rfl rfl 4 (by decide) tw_128 rfl dX8_goes_207 ?_
                            refine ta_iconst C 0 dX8_goes_210 (by decide) ?_
                            refine lv_dup2_11 hx hb dX8_goes_211 rfl rfl ?_
                            refine ta_iald C hP 2 rfl (i := 0) (by omega) dX8_goes_212 ?_
                            refine ta_nv (y := (ta_u g3 1 ((g3 1) + 1)) 0) (ta_un (by decide)) ?_
                            refine ta_nv (y := g3 0) (ta_un (by decide)) ?_
                            refine ta_iconst C 1 dX8_goes_213 (by decide) ?_
                            refine ta_iadd C (a := g3 0) (b := 1) dX8_goes_214 ?_
                            refine ta_iast C hP hD hS 2 rfl (i := 0) (v := (g3 0) + 1) (by omega) dX8_goes_215 (fun H locs hP hD hS => ?_)
                            have hP : va_P D vwCl [(z 0, .inr (8, [.ref (z 1), .int (nI ty), .ref (z 2), .ref (z 3), .ref (z 4), .ref (z 5), .int (nI kn), .ref (z 6), .ref (z 7), .ref (z 8), .int (nI no), .int (nI at_), .int (nI so), .int (nI sr), .int (nI va), .ref (z 9)])), (z 2, .inl (k.1 0, 23, .inl (ta_e t))), (z 4, .inl (k.1 0, 66, .inl (ta_e (ta_u (ta_u (ta_u g3 1 ((g3 1) + 1)) 1 0) 0 ((g3 0) + 1)))))] H := hP
                            have hD : va_D A [(z 0, .inr (8, [.ref (z 1), .int (nI ty), .ref (z 2), .ref (z 3), .ref (z 4), .ref (z 5), .int (nI kn), .ref (z 6), .ref (z 7), .ref (z 8), .int (nI no), .int (nI at_), .int (nI so), .int (nI sr), .int (nI va), .ref (z 9)])), (z 2, .inl (k.1 0, 23, .inl (ta_e t))), (z 4, .inl (k.1 0, 66, .inl (ta_e (ta_u (ta_u (ta_u g3 1 ((g3 1) + 1)) 1 0) 0 ((g3 0) + 1)))))] := hD
                            refine lv_iload_n hx hb dX8_goes_216 rfl (lv_at hl 1 rfl) ?_
                            have e : ta_u (ta_u (ta_u g3 1 ((g3 1) + 1)) 1 0) 0 ((g3 0) + 1) = tg_go t g := by rw [ego]; unfold tg_wind; rw [if_pos (by omega), ta_uu]
                            have ekn : nI 4294967295 = nI (tg_kn g) := by unfold tg_kn; rw [epre, ← ha]; first | rw [if_pos (by omega)] | rw [if_neg (by omega)]
                            rw [e] at hP hD
                            exact ret _ () dX8_goes_217 rfl ekn hP hD hS
                      · exact absurd c181 (by decide)
                  · exact absurd c179 (by decide)
                · exact absurd c178 (by decide)
              · exact absurd c177 (by decide)
        · refine ta_nv (y := 4) h4 ?_
          refine lv_istore_n (lv' := [(3, .int (nI 4)), (2, .int (nI 4294967295)), (1, .int (nI 0)), (0, .ref (z 0))]) hx hb dX8_goes_44 rfl hl (by decide) rfl (fun ls hl => ?_)
          refine lv_iload_n hx hb dX8_goes_45 rfl (lv_at hl 0 rfl) ?_
          refine ta_iconst C 4294967295 dX8_goes_46 (by decide) ?_
          refine lv_icmp_eq (tgt := 174) hx hb dX8_goes_47 (by decide) (fun c185 => ?_) (fun c185 => ?_)
          · exact absurd c185 (by decide)
          · refine lv_iload_n hx hb dX8_goes_50 rfl (lv_at hl 0 rfl) ?_
            refine lv_if_eq (tgt := 59) hx hb dX8_goes_51 (by decide) (fun c186 => ?_) (fun c186 => ?_)
            · exact absurd c186 (by decide)
            · refine lv_iload_n hx hb dX8_goes_54 rfl (lv_at hl 0 rfl) ?_
              refine ta_iconst C 2 dX8_goes_55 (by decide) ?_
              refine lv_icmp_ne (tgt := 69) hx hb dX8_goes_56 (by decide) (fun c187 => ?_) (fun c187 => ?_)
              · refine lv_iload_n hx hb dX8_goes_69 rfl (lv_at hl 0 rfl) ?_
                refine ta_iconst C 2 dX8_goes_70 (by decide) ?_
                refine lv_icmp_ne (tgt := 84) hx hb dX8_goes_71 (by decide) (fun c188 => ?_) (fun c188 => ?_)
                · refine lv_iload_n hx hb dX8_goes_84 rfl (lv_at hl 0 rfl) ?_
                  refine ta_iconst C 1 dX8_goes_85 (by decide) ?_
                  refine lv_icmp_ne (tgt := 103) hx hb dX8_goes_86 (by decide) (fun c189 => ?_) (fun c189 => ?_)
                  · refine lv_iload_n hx hb dX8_goes_103 rfl (lv_at hl 0 rfl) ?_
                    refine ta_iconst C 3 dX8_goes_104 (by decide) ?_
                    refine lv_icmp_ne (tgt := 124) hx hb dX8_goes_105 (by decide) (fun c190 => ?_) (fun c190 => ?_)
                    · refine lv_iload_n hx hb dX8_goes_124 rfl (lv_at hl 0 rfl) ?_
                      refine ta_iconst C 4 dX8_goes_125 (by decide) ?_
                      refine lv_icmp_ne (tgt := 144) hx hb dX8_goes_126 (by decide) (fun c191 => ?_) (fun c191 => ?_)
                      · exact absurd c191 (by decide)
                      · refine lv_aload_n hx hb dX8_goes_129 rfl (lv_at hl 3 rfl) ?_
                        refine ta_get C hP 0 inlX8 rfl rfl 4 (by decide) tw_128 rfl dX8_goes_130 ?_
                        refine ta_bipush C 24 dX8_goes_133 (by decide) ?_
                        refine lv_iload_n hx hb dX8_goes_135 rfl (lv_at hl 2 rfl) ?_
                        refine ta_iadd C (a := 24) (b := 0) dX8_goes_136 ?_
                        refine lv_dup2_11 hx hb dX8_goes_137 rfl rfl ?_
                        refine ta_iald C hP 2 rfl (i := 24) (by omega) dX8_goes_138 ?_
                        refine ta_iconst C 1 dX8_goes_139 (by decide) ?_
                        refine ta_iadd C (a := g1 24) (b := 1) dX8_goes_140 ?_
                        refine ta_iast C hP hD hS 2 rfl (i := 24) (v := (g1 24) + 1) (by omega) dX8_goes_141 (fun H locs hP hD hS => ?_)
                        have hP : va_P D vwCl [(z 0, .inr (8, [.ref (z 1), .int (nI ty), .ref (z 2), .ref (z 3), .ref (z 4), .ref (z 5), .int (nI kn), .ref (z 6), .ref (z 7), .ref (z 8), .int (nI no), .int (nI at_), .int (nI so), .int (nI sr), .int (nI va), .ref (z 9)])), (z 2, .inl (k.1 0, 23, .inl (ta_e t))), (z 4, .inl (k.1 0, 66, .inl (ta_e (ta_u g1 24 ((g1 24) + 1)))))] H := hP
                        have hD : va_D A [(z 0, .inr (8, [.ref (z 1), .int (nI ty), .ref (z 2), .ref (z 3), .ref (z 4), .ref (z 5), .int (nI kn), .ref (z 6), .ref (z 7), .ref (z 8), .int (nI no), .int (nI at_), .int (nI so), .int (nI sr), .int (nI va), .ref (z 9)])), (z 2, .inl (k.1 0, 23, .inl (ta_e t))), (z 4, .inl (k.1 0, 66, .inl (ta_e (ta_u g1 24 ((g1 24) + 1)))))] := hD
                        refine lv_iload_n hx hb dX8_goes_142 rfl (lv_at hl 2 rfl) ?_
                        refine lv_istore_n (lv' := [(2, .int (nI 0)), (3, .int (nI 4)), (1, .int (nI 0)), (0, .ref (z 0))]) hx hb dX8_goes_143 rfl hl (by decide) rfl (fun ls hl => ?_)
                        obtain ⟨g2, hg2⟩ : ∃ z, z = ta_u g1 24 ((g1 24) + 1) := ⟨_, rfl⟩
                        rw [← hg2] at hP hD
                        have eact : tg_act t g1 0 = g2 := by rw [hg2]; unfold tg_act; rw [if_neg (by omega), if_neg (by omega), if_neg (by omega), if_neg (by omega)]
                        have k5 : g2 5 = g1 5 := by rw [← eact]; exact tg_act_k (by omega) e2 (by omega) (by omega) (by omega)
                        have hP : va_P D vwCl [(z 0, .inr (8, [.ref (z 1), .int (nI ty), .ref (z 2), .ref (z 3), .ref (z 4), .ref (z 5), .int (nI kn), .ref (z 6), .ref (z 7), .ref (z 8), .int (nI no), .int (nI at_), .int (nI so), .int (nI sr), .int (nI va), .ref (z 9)])), (z 2, .inl (k.1 0, 23, .inl (ta_e t))), (z 4, .inl (k.1 0, 66, .inl (ta_e g2)))] H := hP
                        have hD : va_D A [(z 0, .inr (8, [.ref (z 1), .int (nI ty), .ref (z 2), .ref (z 3), .ref (z 4), .ref (z 5), .int (nI kn), .ref (z 6), .ref (z 7), .ref (z 8), .int (nI no), .int (nI at_), .int (nI so), .int (nI sr), .int (nI va), .ref (z 9)])), (z 2, .inl (k.1 0, 23, .inl (ta_e t))), (z 4, .inl (k.1 0, 66, .inl (ta_e g2)))] := hD
                        refine lv_aload_n hx hb dX8_goes_144 rfl (lv_at hl 3 rfl) ?_
                        refine ta_get C hP 0 inlX8 rfl rfl 4 (by decide) tw_128 rfl dX8_goes_145 ?_
                        refine ta_iconst C 5 dX8_goes_148 (by decide) ?_
                        refine lv_dup2_11 hx hb dX8_goes_149 rfl rfl ?_
                        refine ta_iald C hP 2 rfl (i := 5) (by omega) dX8_goes_150 ?_
                        refine ta_iconst C 1 dX8_goes_151 (by decide) ?_
                        refine ta_isub C (a := g2 5) (b := 1) (by omega) dX8_goes_152 ?_
                        refine ta_iast C hP hD hS 2 rfl (i := 5) (v := (g2 5) - 1) (by omega) dX8_goes_153 (fun H locs hP hD hS => ?_)
                        have hP : va_P D vwCl [(z 0, .inr (8, [.ref (z 1), .int (nI ty), .ref (z 2), .ref (z 3), .ref (z 4), .ref (z 5), .int (nI kn), .ref (z 6), .ref (z 7), .ref (z 8), .int (nI no), .int (nI at_), .int (nI so), .int (nI sr), .int (nI va), .ref (z 9)])), (z 2, .inl (k.1 0, 23, .inl (ta_e t))), (z 4, .inl (k.1 0, 66, .inl (ta_e (ta_u g2 5 ((g2 5) - 1)))))] H := hP
                        have hD : va_D A [(z 0, .inr (8, [.ref (z 1), .int (nI ty), .ref (z 2), .ref (z 3), .ref (z 4), .ref (z 5), .int (nI kn), .ref (z 6), .ref (z 7), .ref (z 8), .int (nI no), .int (nI at_), .int (nI so), .int (nI sr), .int (nI va), .ref (z 9)])), (z 2, .inl (k.1 0, 23, .inl (ta_e t))), (z 4, .inl (k.1 0, 66, .inl (ta_e (ta_u g2 5 ((g2 5) - 1)))))] := hD
                        refine lv_aload_n hx hb dX8_goes_154 rfl (lv_at hl 3 rfl) ?_
                        refine ta_get C hP 0 inlX8 rfl rfl 4 (by decide) tw_128 rfl dX8_goes_155 ?_
                        refine ta_iconst C 4 dX8_goes_158 (by decide) ?_
                        refine lv_aload_n hx hb dX8_goes_159 rfl (lv_at hl 3 rfl) ?_
                        refine ta_get C hP 0 inlX8 rfl rfl 4 (by decide) tw_128 rfl dX8_goes_160 ?_
                        refine ta_iconst C 5 dX8_goes_163 (by decide) ?_
                        refine ta_iald C hP 2 rfl (i := 5) (by omega) dX8_goes_164 ?_
                        refine ta_nv (y := (g2 5) - 1) ta_us ?_
                        refine ta_ine C (a := (g2 5) - 1) (tgt := 172) (by omega) dX8_goes_165 (by decide) (fun c192 => ?_) (fun c192 => ?_)
                        · refine lv_iload_n hx hb dX8_goes_172 rfl (lv_at hl 1 rfl) ?_
                          refine ta_iast C hP hD hS 2 rfl (i := 4) (v := 4) (by omega) dX8_goes_173 (fun H locs hP hD hS => ?_)
                          have hP : va_P D vwCl [(z 0, .inr (8, [.ref (z 1), .int (nI ty), .ref (z 2), .ref (z 3), .ref (z 4), .ref (z 5), .int (nI kn), .ref (z 6), .ref (z 7), .ref (z 8), .int (nI no), .int (nI at_), .int (nI so), .int (nI sr), .int (nI va), .ref (z 9)])), (z 2, .inl (k.1 0, 23, .inl (ta_e t))), (z 4, .inl (k.1 0, 66, .inl (ta_e (ta_u (ta_u g2 5 ((g2 5) - 1)) 4 4))))] H := hP
                          have hD : va_D A [(z 0, .inr (8, [.ref (z 1), .int (nI ty), .ref (z 2), .ref (z 3), .ref (z 4), .ref (z 5), .int (nI kn), .ref (z 6), .ref (z 7), .ref (z 8), .int (nI no), .int (nI at_), .int (nI so), .int (nI sr), .int (nI va), .ref (z 9)])), (z 2, .inl (k.1 0, 23, .inl (ta_e t))), (z 4, .inl (k.1 0, 66, .inl (ta_e (ta_u (ta_u g2 5 ((g2 5) - 1)) 4 4))))] := hD
                          obtain ⟨g3, hg3⟩ : ∃ z, z = ta_u (ta_u g2 5 ((g2 5) - 1)) 4 4 := ⟨_, rfl⟩
                          rw [← hg3] at hP hD
                          have edo : tg_do t g1 0 = g3 := by unfold tg_do; rw [hg3, eact, k5, if_neg (by omega), h4]
                          have ego : tg_go t g = tg_wind t g3 1 := by unfold tg_go; rw [epre, ← ha, if_neg (by omega), edo]
                          have k1 : g3 1 = g1 1 := by rw [← edo]; exact tg_do_k (by omega) e2 (by omega) (by omega) (by omega) (by omega) (by omega)
                          have hP : va_P D vwCl [(z 0, .inr (8, [.ref (z 1), .int (nI ty), .ref (z 2), .ref (z 3), .ref (z 4), .ref (z 5), .int (nI kn), .ref (z 6), .ref (z 7), .ref (z 8), .int (nI no), .int (nI at_), .int (nI so), .int (nI sr), .int (nI va), .ref (z 9)])), (z 2, .inl (k.1 0, 23, .inl (ta_e t))), (z 4, .inl (k.1 0, 66, .inl (ta_e g3)))] H := hP
                          have hD : va_D A [(z 0, .inr (8, [.ref (z 1), .int (nI ty), .ref (z 2), .ref (z 3), .ref (z 4), .ref (z 5), .int (nI kn), .ref (z 6), .ref (z 7), .ref (z 8), .int (nI no), .int (nI at_), .int (nI so), .int (nI sr), .int (nI va), .ref (z 9)])), (z 2, .inl (k.1 0, 23, .inl (ta_e t))), (z 4, .inl (k.1 0, 66, .inl (ta_e g3)))] := hD
                          refine lv_aload_n hx hb dX8_goes_174 rfl (lv_at hl 3 rfl) ?_
                          refine ta_get C hP 0 inlX8 rfl rfl 4 (by decide) tw_128 rfl dX8_goes_175 ?_
                          refine ta_iconst C 1 dX8_goes_178 (by decide) ?_
                          refine lv_dup2_11 hx hb dX8_goes_179 rfl rfl ?_
                          refine ta_iald C hP 2 rfl (i := 1) (by omega) dX8_goes_180 ?_
                          refine ta_iconst C 1 dX8_goes_181 (by decide) ?_
                          refine ta_iadd C (a := g3 1) (b := 1) dX8_goes_182 ?_
                          refine ta_iast C hP hD hS 2 rfl (i := 1) (v := (g3 1) + 1) (by omega) dX8_goes_183 (fun H locs hP hD hS => ?_)
                          have hP : va_P D vwCl [(z 0, .inr (8, [.ref (z 1), .int (nI ty), .ref (z 2), .ref (z 3), .ref (z 4), .ref (z 5), .int (nI kn), .ref (z 6), .ref (z 7), .ref (z 8), .int (nI no), .int (nI at_), .int (nI so), .int (nI sr), .int (nI va), .ref (z 9)])), (z 2, .inl (k.1 0, 23, .inl (ta_e t))), (z 4, .inl (k.1 0, 66, .inl (ta_e (ta_u g3 1 ((g3 1) + 1)))))] H := hP
                          have hD : va_D A [(z 0, .inr (8, [.ref (z 1), .int (nI ty), .ref (z 2), .ref (z 3), .ref (z 4), .ref (z 5), .int (nI kn), .ref (z 6), .ref (z 7), .ref (z 8), .int (nI no), .int (nI at_), .int (nI so), .int (nI sr), .int (nI va), .ref (z 9)])), (z 2, .inl (k.1 0, 23, .inl (ta_e t))), (z 4, .inl (k.1 0, 66, .inl (ta_e (ta_u g3 1 ((g3 1) + 1)))))] := hD
                          refine lv_aload_n hx hb dX8_goes_184 rfl (lv_at hl 3 rfl) ?_
                          refine ta_get C hP 0 inlX8 rfl rfl 4 (by decide) tw_128 rfl dX8_goes_185 ?_
                          refine ta_iconst C 1 dX8_goes_188 (by decide) ?_
                          refine ta_iald C hP 2 rfl (i := 1) (by omega) dX8_goes_189 ?_
                          refine ta_nv (y := (g3 1) + 1) ta_us ?_
                          refine lv_aload_n hx hb dX8_goes_190 rfl (lv_at hl 3 rfl) ?_
                          refine ta_get C hP 0 inlX8 rfl rfl 2 (by decide) tw_126 rfl dX8_goes_191 ?_
                          refine ta_iconst C 2 dX8_goes_194 (by decide) ?_
                          refine ta_iald C hP 1 rfl (i := 2) (by omega) dX8_goes_195 ?_
                          refine ta_cne C (a := (g3 1) + 1) (b := t 2) (tgt := 216) (by omega) (by omega) dX8_goes_196 (by decide) (fun c193 => ?_) (fun c193 => ?_)
                          · refine lv_iload_n hx hb dX8_goes_216 rfl (lv_at hl 0 rfl) ?_
                            have e : ta_u g3 1 ((g3 1) + 1) = tg_go t g := by rw [ego]; unfold tg_wind; rw [if_neg (by omega)]
                            have ekn : nI 0 = nI (tg_kn g) := by unfold tg_kn; rw [epre, ← ha]; first | rw [if_pos (by omega)] | rw [if_neg (by omega)]
                            rw [e] at hP hD
                            exact ret _ () dX8_goes_217 rfl ekn hP hD hS
                          · refine lv_aload_n hx hb dX8_goes_199 rfl (lv_at hl 3 rfl) ?_
                            refine ta_get C hP 0 inlX8 rfl rfl 4 (by decide) tw_128 rfl dX8_goes_200 ?_
                            refine ta_iconst C 1 dX8_goes_203 (by decide) ?_
                            refine ta_iconst C 0 dX8_goes_204 (by decide) ?_
                            refine ta_iast C hP hD hS 2 rfl (i := 1) (v := 0) (by omega) dX8_goes_205 (fun H locs hP hD hS => ?_)
                            have hP : va_P D vwCl [(z 0, .inr (8, [.ref (z 1), .int (nI ty), .ref (z 2), .ref (z 3), .ref (z 4), .ref (z 5), .int (nI kn), .ref (z 6), .ref (z 7), .ref (z 8), .int (nI no), .int (nI at_), .int (nI so), .int (nI sr), .int (nI va), .ref (z 9)])), (z 2, .inl (k.1 0, 23, .inl (ta_e t))), (z 4, .inl (k.1 0, 66, .inl (ta_e (ta_u (ta_u g3 1 ((g3 1) + 1)) 1 0))))] H := hP
                            have hD : va_D A [(z 0, .inr (8, [.ref (z 1), .int (nI ty), .ref (z 2), .ref (z 3), .ref (z 4), .ref (z 5), .int (nI kn), .ref (z 6), .ref (z 7), .ref (z 8), .int (nI no), .int (nI at_), .int (nI so), .int (nI sr), .int (nI va), .ref (z 9)])), (z 2, .inl (k.1 0, 23, .inl (ta_e t))), (z 4, .inl (k.1 0, 66, .inl (ta_e (ta_u (ta_u g3 1 ((g3 1) + 1)) 1 0))))] := hD
                            refine lv_aload_n hx hb dX8_goes_206 rfl (lv_at hl 3 rfl) ?_
                            refine ta_get C hP 0 inlX8 rfl rfl 4 (by decide) tw_128 rfl dX8_goes_207 ?_
                            refine ta_iconst C 0 dX8_goes_210 (by decide) ?_
                            refine lv_dup2_11 hx hb dX8_goes_211 rfl rfl ?_
                            refine ta_iald C hP 2 rfl (i := 0) (by omega) dX8_goes_212 ?_
                            refine ta_nv (y := (ta_u g3 1 ((g3 1) + 1)) 0) (ta_un (by decide)) ?_
                            refine ta_nv (y := g3 0) (ta_un (by decide)) ?_
                            refine ta_iconst C 1 dX8_goes_213 (by decide) ?_
                            refine ta_iadd C (a := g3 0) (b := 1) dX8_goes_214 ?_
                            refine ta_iast C hP hD hS 2 rfl (i := 0) (v := (g3 0) + 1) (by omega) dX8_goes_215 (fun H locs hP hD hS => ?_)
                            have hP : va_P D vwCl [(z 0, .inr (8, [.ref (z 1), .int (nI ty), .ref (z 2), .ref (z 3), .ref (z 4), .ref (z 5), .int (nI kn), .ref (z 6), .ref (z 7), .ref (z 8), .int (nI no), .int (nI at_), .int (nI so), .int (nI sr), .int (nI va), .ref (z 9)])), (z 2, .inl (k.1 0, 23, .inl (ta_e t))), (z 4, .inl (k.1 0, 66, .inl (ta_e (ta_u (ta_u (ta_u g3 1 ((g3 1) + 1)) 1 0) 0 ((g3 0) + 1)))))] H := hP
                            have hD : va_D A [(z 0, .inr (8, [.ref (z 1), .int (nI ty), .ref (z 2), .ref (z 3), .ref (z 4), .ref (z 5), .int (nI kn), .ref (z 6), .ref (z 7), .ref (z 8), .int (nI no), .int (nI at_), .int (nI so), .int (nI sr), .int (nI va), .ref (z 9)])), (z 2, .inl (k.1 0, 23, .inl (ta_e t))), (z 4, .inl (k.1 0, 66, .inl (ta_e (ta_u (ta_u (ta_u g3 1 ((g3 1) + 1)) 1 0) 0 ((g3 0) + 1)))))] := hD
                            refine lv_iload_n hx hb dX8_goes_216 rfl (lv_at hl 0 rfl) ?_
                            have e : ta_u (ta_u (ta_u g3 1 ((g3 1) + 1)) 1 0) 0 ((g3 0) + 1) = tg_go t g := by rw [ego]; unfold tg_wind; rw [if_pos (by omega), ta_uu]
                            have ekn : nI 0 = nI (tg_kn g) := by unfold tg_kn; rw [epre, ← ha]; first | rw [if_pos (by omega)] | rw [if_neg (by omega)]
                            rw [e] at hP hD
                            exact ret _ () dX8_goes_217 rfl ekn hP hD hS
                        · refine ta_iconst C 4294967295 dX8_goes_168 (by decide) ?_
                          refine lv_goto (tgt := 173) hx hb dX8_goes_169 (by decide) ?_
                          refine ta_iast C hP hD hS 2 rfl (i := 4) (v := 4294967295) (by omega) dX8_goes_173 (fun H locs hP hD hS => ?_)
                          have hP : va_P D vwCl [(z 0, .inr (8, [.ref (z 1), .int (nI ty), .ref (z 2), .ref (z 3), .ref (z 4), .ref (z 5), .int (nI kn), .ref (z 6), .ref (z 7), .ref (z 8), .int (nI no), .int (nI at_), .int (nI so), .int (nI sr), .int (nI va), .ref (z 9)])), (z 2, .inl (k.1 0, 23, .inl (ta_e t))), (z 4, .inl (k.1 0, 66, .inl (ta_e (ta_u (ta_u g2 5 ((g2 5) - 1)) 4 4294967295))))] H := hP
                          have hD : va_D A [(z 0, .inr (8, [.ref (z 1), .int (nI ty), .ref (z 2), .ref (z 3), .ref (z 4), .ref (z 5), .int (nI kn), .ref (z 6), .ref (z 7), .ref (z 8), .int (nI no), .int (nI at_), .int (nI so), .int (nI sr), .int (nI va), .ref (z 9)])), (z 2, .inl (k.1 0, 23, .inl (ta_e t))), (z 4, .inl (k.1 0, 66, .inl (ta_e (ta_u (ta_u g2 5 ((g2 5) - 1)) 4 4294967295))))] := hD
                          obtain ⟨g3, hg3⟩ : ∃ z, z = ta_u (ta_u g2 5 ((g2 5) - 1)) 4 4294967295 := ⟨_, rfl⟩
                          rw [← hg3] at hP hD
                          have edo : tg_do t g1 0 = g3 := by unfold tg_do; rw [hg3, eact, k5, if_pos (by omega)]
                          have ego : tg_go t g = tg_wind t g3 1 := by unfold tg_go; rw [epre, ← ha, if_neg (by omega), edo]
                          have k1 : g3 1 = g1 1 := by rw [← edo]; exact tg_do_k (by omega) e2 (by omega) (by omega) (by omega) (by omega) (by omega)
                          have hP : va_P D vwCl [(z 0, .inr (8, [.ref (z 1), .int (nI ty), .ref (z 2), .ref (z 3), .ref (z 4), .ref (z 5), .int (nI kn), .ref (z 6), .ref (z 7), .ref (z 8), .int (nI no), .int (nI at_), .int (nI so), .int (nI sr), .int (nI va), .ref (z 9)])), (z 2, .inl (k.1 0, 23, .inl (ta_e t))), (z 4, .inl (k.1 0, 66, .inl (ta_e g3)))] H := hP
                          have hD : va_D A [(z 0, .inr (8, [.ref (z 1), .int (nI ty), .ref (z 2), .ref (z 3), .ref (z 4), .ref (z 5), .int (nI kn), .ref (z 6), .ref (z 7), .ref (z 8), .int (nI no), .int (nI at_), .int (nI so), .int (nI sr), .int (nI va), .ref (z 9)])), (z 2, .inl (k.1 0, 23, .inl (ta_e t))), (z 4, .inl (k.1 0, 66, .inl (ta_e g3)))] := hD
                          refine lv_aload_n hx hb dX8_goes_174 rfl (lv_at hl 3 rfl) ?_
                          refine ta_get C hP 0 inlX8 rfl rfl 4 (by decide) tw_128 rfl dX8_goes_175 ?_
                          refine ta_iconst C 1 dX8_goes_178 (by decide) ?_
                          refine lv_dup2_11 hx hb dX8_goes_179 rfl rfl ?_
                          refine ta_iald C hP 2 rfl (i := 1) (by omega) dX8_goes_180 ?_
                          refine ta_iconst C 1 dX8_goes_181 (by decide) ?_
                          refine ta_iadd C (a := g3 1) (b := 1) dX8_goes_182 ?_
                          refine ta_iast C hP hD hS 2 rfl (i := 1) (v := (g3 1) + 1) (by omega) dX8_goes_183 (fun H locs hP hD hS => ?_)
                          have hP : va_P D vwCl [(z 0, .inr (8, [.ref (z 1), .int (nI ty), .ref (z 2), .ref (z 3), .ref (z 4), .ref (z 5), .int (nI kn), .ref (z 6), .ref (z 7), .ref (z 8), .int (nI no), .int (nI at_), .int (nI so), .int (nI sr), .int (nI va), .ref (z 9)])), (z 2, .inl (k.1 0, 23, .inl (ta_e t))), (z 4, .inl (k.1 0, 66, .inl (ta_e (ta_u g3 1 ((g3 1) + 1)))))] H := hP
                          have hD : va_D A [(z 0, .inr (8, [.ref (z 1), .int (nI ty), .ref (z 2), .ref (z 3), .ref (z 4), .ref (z 5), .int (nI kn), .ref (z 6), .ref (z 7), .ref (z 8), .int (nI no), .int (nI at_), .int (nI so), .int (nI sr), .int (nI va), .ref (z 9)])), (z 2, .inl (k.1 0, 23, .inl (ta_e t))), (z 4, .inl (k.1 0, 66, .inl (ta_e (ta_u g3 1 ((g3 1) + 1)))))] := hD
                          refine lv_aload_n hx hb dX8_goes_184 rfl (lv_at hl 3 rfl) ?_
                          refine ta_get C hP 0 inlX8 rfl rfl 4 (by decide) tw_128 rfl dX8_goes_185 ?_
                          refine ta_iconst C 1 dX8_goes_188 (by decide) ?_
                          refine ta_iald C hP 2 rfl (i := 1) (by omega) dX8_goes_189 ?_
                          refine ta_nv (y := (g3 1) + 1) ta_us ?_
                          refine lv_aload_n hx hb dX8_goes_190 rfl (lv_at hl 3 rfl) ?_
                          refine ta_get C hP 0 inlX8 rfl rfl 2 (by decide) tw_126 rfl dX8_goes_191 ?_
                          refine ta_iconst C 2 dX8_goes_194 (by decide) ?_
                          refine ta_iald C hP 1 rfl (i := 2) (by omega) dX8_goes_195 ?_
                          refine ta_cne C (a := (g3 1) + 1) (b := t 2) (tgt := 216) (by omega) (by omega) dX8_goes_196 (by decide) (fun c194 => ?_) (fun c194 => ?_)
                          · refine lv_iload_n hx hb dX8_goes_216 rfl (lv_at hl 0 rfl) ?_
                            have e : ta_u g3 1 ((g3 1) + 1) = tg_go t g := by rw [ego]; unfold tg_wind; rw [if_neg (by omega)]
                            have ekn : nI 0 = nI (tg_kn g) := by unfold tg_kn; rw [epre, ← ha]; first | rw [if_pos (by omega)] | rw [if_neg (by omega)]
                            rw [e] at hP hD
                            exact ret _ () dX8_goes_217 rfl ekn hP hD hS
                          · refine lv_aload_n hx hb dX8_goes_199 rfl (lv_at hl 3 rfl) ?_
                            refine ta_get C hP 0 inlX8 rfl rfl 4 (by decide) tw_128 rfl dX8_goes_200 ?_
                            refine ta_iconst C 1 dX8_goes_203 (by decide) ?_
                            refine ta_iconst C 0 dX8_goes_204 (by decide) ?_
                            refine ta_iast C hP hD hS 2 rfl (i := 1) (v := 0) (by omega) dX8_goes_205 (fun H locs hP hD hS => ?_)
                            have hP : va_P D vwCl [(z 0, .inr (8, [.ref (z 1), .int (nI ty), .ref (z 2), .ref (z 3), .ref (z 4), .ref (z 5), .int (nI kn), .ref (z 6), .ref (z 7), .ref (z 8), .int (nI no), .int (nI at_), .int (nI so), .int (nI sr), .int (nI va), .ref (z 9)])), (z 2, .inl (k.1 0, 23, .inl (ta_e t))), (z 4, .inl (k.1 0, 66, .inl (ta_e (ta_u (ta_u g3 1 ((g3 1) + 1)) 1 0))))] H := hP
                            have hD : va_D A [(z 0, .inr (8, [.ref (z 1), .int (nI ty), .ref (z 2), .ref (z 3), .ref (z 4), .ref (z 5), .int (nI kn), .ref (z 6), .ref (z 7), .ref (z 8), .int (nI no), .int (nI at_), .int (nI so), .int (nI sr), .int (nI va), .ref (z 9)])), (z 2, .inl (k.1 0, 23, .inl (ta_e t))), (z 4, .inl (k.1 0, 66, .inl (ta_e (ta_u (ta_u g3 1 ((g3 1) + 1)) 1 0))))] := hD
                            refine lv_aload_n hx hb dX8_goes_206 rfl (lv_at hl 3 rfl) ?_
                            refine ta_get C hP 0 inlX8 rfl rfl 4 (by decide) tw_128 rfl dX8_goes_207 ?_
                            refine ta_iconst C 0 dX8_goes_210 (by decide) ?_
                            refine lv_dup2_11 hx hb dX8_goes_211 rfl rfl ?_
                            refine ta_iald C hP 2 rfl (i := 0) (by omega) dX8_goes_212 ?_
                            refine ta_nv (y := (ta_u g3 1 ((g3 1) + 1)) 0) (ta_un (by decide)) ?_
                            refine ta_nv (y := g3 0) (ta_un (by decide)) ?_
                            refine ta_iconst C 1 dX8_goes_213 (by decide) ?_
                            refine ta_iadd C (a := g3 0) (b := 1) dX8_goes_214 ?_
                            refine ta_iast C hP hD hS 2 rfl (i := 0) (v := (g3 0) + 1) (by omega) dX8_goes_215 (fun H locs hP hD hS => ?_)
                            have hP : va_P D vwCl [(z 0, .inr (8, [.ref (z 1), .int (nI ty), .ref (z 2), .ref (z 3), .ref (z 4), .ref (z 5), .int (nI kn), .ref (z 6), .ref (z 7), .ref (z 8), .int (nI no), .int (nI at_), .int (nI so), .int (nI sr), .int (nI va), .ref (z 9)])), (z 2, .inl (k.1 0, 23, .inl (ta_e t))), (z 4, .inl (k.1 0, 66, .inl (ta_e (ta_u (ta_u (ta_u g3 1 ((g3 1) + 1)) 1 0) 0 ((g3 0) + 1)))))] H := hP
                            have hD : va_D A [(z 0, .inr (8, [.ref (z 1), .int (nI ty), .ref (z 2), .ref (z 3), .ref (z 4), .ref (z 5), .int (nI kn), .ref (z 6), .ref (z 7), .ref (z 8), .int (nI no), .int (nI at_), .int (nI so), .int (nI sr), .int (nI va), .ref (z 9)])), (z 2, .inl (k.1 0, 23, .inl (ta_e t))), (z 4, .inl (k.1 0, 66, .inl (ta_e (ta_u (ta_u (ta_u g3 1 ((g3 1) + 1)) 1 0) 0 ((g3 0) + 1)))))] := hD
                            refine lv_iload_n hx hb dX8_goes_216 rfl (lv_at hl 0 rfl) ?_
                            have e : ta_u (ta_u (ta_u g3 1 ((g3 1) + 1)) 1 0) 0 ((g3 0) + 1) = tg_go t g := by rw [ego]; unfold tg_wind; rw [if_pos (by omega), ta_uu]
                            have ekn : nI 0 = nI (tg_kn g) := by unfold tg_kn; rw [epre, ← ha]; first | rw [if_pos (by omega)] | rw [if_neg (by omega)]
                            rw [e] at hP hD
                            exact ret _ () dX8_goes_217 rfl ekn hP hD hS
                    · exact absurd c190 (by decide)
                  · exact absurd c189 (by decide)
                · exact absurd c188 (by decide)
              · exact absurd c187 (by decide)
  · refine lv_istore_n (lv' := [(1, .int (nI 1)), (0, .ref (z 0))]) hx hb dX8_goes_8 rfl hl (by decide) rfl (fun ls hl => ?_)
    refine ta_iconst C 4294967295 dX8_goes_9 (by decide) ?_
    refine lv_istore_n (lv' := [(2, .int (nI 4294967295)), (1, .int (nI 1)), (0, .ref (z 0))]) hx hb dX8_goes_10 rfl hl (by decide) rfl (fun ls hl => ?_)
    refine lv_aload_n hx hb dX8_goes_11 rfl (lv_at hl 2 rfl) ?_
    refine ta_get C hP 0 inlX8 rfl rfl 4 (by decide) tw_128 rfl dX8_goes_12 ?_
    refine ta_iconst C 4 dX8_goes_15 (by decide) ?_
    refine ta_iald C hP 2 rfl (i := 4) (by omega) dX8_goes_16 ?_
    refine ta_iconst C 4294967295 dX8_goes_17 (by decide) ?_
    refine ta_cne C (a := g 4) (b := 4294967295) (tgt := 38) (by omega) (by omega) dX8_goes_18 (by decide) (fun c195 => ?_) (fun c195 => ?_)
    · obtain ⟨g1, hg1⟩ : ∃ z, z = g := ⟨_, rfl⟩
      have epre : tg_pre g = g1 := by rw [hg1]; unfold tg_pre; rw [← ha]; exact if_neg (fun h => by have h7 : 0 < g 7 := h.2; omega)
      have hok1 : tg_ok t g1 := by rw [hg1]; exact hok
      have g10 : g1 0 = g 0 := by rw [hg1]
      rw [← hg1] at hP hD
      have hP : va_P D vwCl [(z 0, .inr (8, [.ref (z 1), .int (nI ty), .ref (z 2), .ref (z 3), .ref (z 4), .ref (z 5), .int (nI kn), .ref (z 6), .ref (z 7), .ref (z 8), .int (nI no), .int (nI at_), .int (nI so), .int (nI sr), .int (nI va), .ref (z 9)])), (z 2, .inl (k.1 0, 23, .inl (ta_e t))), (z 4, .inl (k.1 0, 66, .inl (ta_e g1)))] H := hP
      have hD : va_D A [(z 0, .inr (8, [.ref (z 1), .int (nI ty), .ref (z 2), .ref (z 3), .ref (z 4), .ref (z 5), .int (nI kn), .ref (z 6), .ref (z 7), .ref (z 8), .int (nI no), .int (nI at_), .int (nI so), .int (nI sr), .int (nI va), .ref (z 9)])), (z 2, .inl (k.1 0, 23, .inl (ta_e t))), (z 4, .inl (k.1 0, 66, .inl (ta_e g1)))] := hD
      obtain ⟨-, e1, e2, e3, e4, -⟩ := id hok1
      refine lv_aload_n hx hb dX8_goes_38 rfl (lv_at hl 2 rfl) ?_
      refine ta_get C hP 0 inlX8 rfl rfl 4 (by decide) tw_128 rfl dX8_goes_39 ?_
      refine ta_iconst C 4 dX8_goes_42 (by decide) ?_
      refine ta_iald C hP 2 rfl (i := 4) (by omega) dX8_goes_43 ?_
      rcases (show g1 4 = 4294967295 ∨ g1 4 = 0 ∨ g1 4 = 1 ∨ g1 4 = 2 ∨ g1 4 = 3 ∨ g1 4 = 4 by omega) with h4 | h4 | h4 | h4 | h4 | h4
      · refine ta_nv (y := 4294967295) h4 ?_
        refine lv_istore_n (lv' := [(3, .int (nI 4294967295)), (2, .int (nI 4294967295)), (1, .int (nI 1)), (0, .ref (z 0))]) hx hb dX8_goes_44 rfl hl (by decide) rfl (fun ls hl => ?_)
        refine lv_iload_n hx hb dX8_goes_45 rfl (lv_at hl 0 rfl) ?_
        refine ta_iconst C 4294967295 dX8_goes_46 (by decide) ?_
        refine lv_icmp_eq (tgt := 174) hx hb dX8_goes_47 (by decide) (fun c196 => ?_) (fun c196 => ?_)
        · obtain ⟨g3, hg3⟩ : ∃ z, z = g1 := ⟨_, rfl⟩
          rw [← hg3] at hP hD
          have ego : tg_go t g = tg_wind t g3 1 := by unfold tg_go; rw [epre, if_pos h4, hg3]
          have k1 : g3 1 = g1 1 := by rw [hg3]
          have hP : va_P D vwCl [(z 0, .inr (8, [.ref (z 1), .int (nI ty), .ref (z 2), .ref (z 3), .ref (z 4), .ref (z 5), .int (nI kn), .ref (z 6), .ref (z 7), .ref (z 8), .int (nI no), .int (nI at_), .int (nI so), .int (nI sr), .int (nI va), .ref (z 9)])), (z 2, .inl (k.1 0, 23, .inl (ta_e t))), (z 4, .inl (k.1 0, 66, .inl (ta_e g3)))] H := hP
          have hD : va_D A [(z 0, .inr (8, [.ref (z 1), .int (nI ty), .ref (z 2), .ref (z 3), .ref (z 4), .ref (z 5), .int (nI kn), .ref (z 6), .ref (z 7), .ref (z 8), .int (nI no), .int (nI at_), .int (nI so), .int (nI sr), .int (nI va), .ref (z 9)])), (z 2, .inl (k.1 0, 23, .inl (ta_e t))), (z 4, .inl (k.1 0, 66, .inl (ta_e g3)))] := hD
          refine lv_aload_n hx hb dX8_goes_174 rfl (lv_at hl 3 rfl) ?_
          refine ta_get C hP 0 inlX8 rfl rfl 4 (by decide) tw_128 rfl dX8_goes_175 ?_
          refine ta_iconst C 1 dX8_goes_178 (by decide) ?_
          refine lv_dup2_11 hx hb dX8_goes_179 rfl rfl ?_
          refine ta_iald C hP 2 rfl (i := 1) (by omega) dX8_goes_180 ?_
          refine ta_iconst C 1 dX8_goes_181 (by decide) ?_
          refine ta_iadd C (a := g3 1) (b := 1) dX8_goes_182 ?_
          refine ta_iast C hP hD hS 2 rfl (i := 1) (v := (g3 1) + 1) (by omega) dX8_goes_183 (fun H locs hP hD hS => ?_)
          have hP : va_P D vwCl [(z 0, .inr (8, [.ref (z 1), .int (nI ty), .ref (z 2), .ref (z 3), .ref (z 4), .ref (z 5), .int (nI kn), .ref (z 6), .ref (z 7), .ref (z 8), .int (nI no), .int (nI at_), .int (nI so), .int (nI sr), .int (nI va), .ref (z 9)])), (z 2, .inl (k.1 0, 23, .inl (ta_e t))), (z 4, .inl (k.1 0, 66, .inl (ta_e (ta_u g3 1 ((g3 1) + 1)))))] H := hP
          have hD : va_D A [(z 0, .inr (8, [.ref (z 1), .int (nI ty), .ref (z 2), .ref (z 3), .ref (z 4), .ref (z 5), .int (nI kn), .ref (z 6), .ref (z 7), .ref (z 8), .int (nI no), .int (nI at_), .int (nI so), .int (nI sr), .int (nI va), .ref (z 9)])), (z 2, .inl (k.1 0, 23, .inl (ta_e t))), (z 4, .inl (k.1 0, 66, .inl (ta_e (ta_u g3 1 ((g3 1) + 1)))))] := hD
          refine lv_aload_n hx hb dX8_goes_184 rfl (lv_at hl 3 rfl) ?_
          refine ta_get C hP 0 inlX8 rfl rfl 4 (by decide) tw_128 rfl dX8_goes_185 ?_
          refine ta_iconst C 1 dX8_goes_188 (by decide) ?_
          refine ta_iald C hP 2 rfl (i := 1) (by omega) dX8_goes_189 ?_
          refine ta_nv (y := (g3 1) + 1) ta_us ?_
          refine lv_aload_n hx hb dX8_goes_190 rfl (lv_at hl 3 rfl) ?_
          refine ta_get C hP 0 inlX8 rfl rfl 2 (by decide) tw_126 rfl dX8_goes_191 ?_
          refine ta_iconst C 2 dX8_goes_194 (by decide) ?_
          refine ta_iald C hP 1 rfl (i := 2) (by omega) dX8_goes_195 ?_
          refine ta_cne C (a := (g3 1) + 1) (b := t 2) (tgt := 216) (by omega) (by omega) dX8_goes_196 (by decide) (fun c197 => ?_) (fun c197 => ?_)
          · refine lv_iload_n hx hb dX8_goes_216 rfl (lv_at hl 1 rfl) ?_
            have e : ta_u g3 1 ((g3 1) + 1) = tg_go t g := by rw [ego]; unfold tg_wind; rw [if_neg (by omega)]
            have ekn : nI 4294967295 = nI (tg_kn g) := by unfold tg_kn; rw [epre, ← ha]; first | rw [if_pos (by omega)] | rw [if_neg (by omega)]
            rw [e] at hP hD
            exact ret _ () dX8_goes_217 rfl ekn hP hD hS
          · refine lv_aload_n hx hb dX8_goes_199 rfl (lv_at hl 3 rfl) ?_
            refine ta_get C hP 0 inlX8 rfl rfl 4 (by decide) tw_128 rfl dX8_goes_200 ?_
            refine ta_iconst C 1 dX8_goes_203 (by decide) ?_
            refine ta_iconst C 0 dX8_goes_204 (by decide) ?_
            refine ta_iast C hP hD hS 2 rfl (i := 1) (v := 0) (by omega) dX8_goes_205 (fun H locs hP hD hS => ?_)
            have hP : va_P D vwCl [(z 0, .inr (8, [.ref (z 1), .int (nI ty), .ref (z 2), .ref (z 3), .ref (z 4), .ref (z 5), .int (nI kn), .ref (z 6), .ref (z 7), .ref (z 8), .int (nI no), .int (nI at_), .int (nI so), .int (nI sr), .int (nI va), .ref (z 9)])), (z 2, .inl (k.1 0, 23, .inl (ta_e t))), (z 4, .inl (k.1 0, 66, .inl (ta_e (ta_u (ta_u g3 1 ((g3 1) + 1)) 1 0))))] H := hP
            have hD : va_D A [(z 0, .inr (8, [.ref (z 1), .int (nI ty), .ref (z 2), .ref (z 3), .ref (z 4), .ref (z 5), .int (nI kn), .ref (z 6), .ref (z 7), .ref (z 8), .int (nI no), .int (nI at_), .int (nI so), .int (nI sr), .int (nI va), .ref (z 9)])), (z 2, .inl (k.1 0, 23, .inl (ta_e t))), (z 4, .inl (k.1 0, 66, .inl (ta_e (ta_u (ta_u g3 1 ((g3 1) + 1)) 1 0))))] := hD
            refine lv_aload_n hx hb dX8_goes_206 rfl (lv_at hl 3 rfl) ?_
            refine ta_get C hP 0 inlX8 rfl rfl 4 (by decide) tw_128 rfl dX8_goes_207 ?_
            refine ta_iconst C 0 dX8_goes_210 (by decide) ?_
            refine lv_dup2_11 hx hb dX8_goes_211 rfl rfl ?_
            refine ta_iald C hP 2 rfl (i := 0) (by omega) dX8_goes_212 ?_
            refine ta_nv (y := (ta_u g3 1 ((g3 1) + 1)) 0) (ta_un (by decide)) ?_
            refine ta_nv (y := g3 0) (ta_un (by decide)) ?_
            refine ta_iconst C 1 dX8_goes_213 (by decide) ?_
            refine ta_iadd C (a := g3 0) (b := 1) dX8_goes_214 ?_
            refine ta_iast C hP hD hS 2 rfl (i := 0) (v := (g3 0) + 1) (by omega) dX8_goes_215 (fun H locs hP hD hS => ?_)
            have hP : va_P D vwCl [(z 0, .inr (8, [.ref (z 1), .int (nI ty), .ref (z 2), .ref (z 3), .ref (z 4), .ref (z 5), .int (nI kn), .ref (z 6), .ref (z 7), .ref (z 8), .int (nI no), .int (nI at_), .int (nI so), .int (nI sr), .int (nI va), .ref (z 9)])), (z 2, .inl (k.1 0, 23, .inl (ta_e t))), (z 4, .inl (k.1 0, 66, .inl (ta_e (ta_u (ta_u (ta_u g3 1 ((g3 1) + 1)) 1 0) 0 ((g3 0) + 1)))))] H := hP
            have hD : va_D A [(z 0, .inr (8, [.ref (z 1), .int (nI ty), .ref (z 2), .ref (z 3), .ref (z 4), .ref (z 5), .int (nI kn), .ref (z 6), .ref (z 7), .ref (z 8), .int (nI no), .int (nI at_), .int (nI so), .int (nI sr), .int (nI va), .ref (z 9)])), (z 2, .inl (k.1 0, 23, .inl (ta_e t))), (z 4, .inl (k.1 0, 66, .inl (ta_e (ta_u (ta_u (ta_u g3 1 ((g3 1) + 1)) 1 0) 0 ((g3 0) + 1)))))] := hD
            refine lv_iload_n hx hb dX8_goes_216 rfl (lv_at hl 1 rfl) ?_
            have e : ta_u (ta_u (ta_u g3 1 ((g3 1) + 1)) 1 0) 0 ((g3 0) + 1) = tg_go t g := by rw [ego]; unfold tg_wind; rw [if_pos (by omega), ta_uu]
            have ekn : nI 4294967295 = nI (tg_kn g) := by unfold tg_kn; rw [epre, ← ha]; first | rw [if_pos (by omega)] | rw [if_neg (by omega)]
            rw [e] at hP hD
            exact ret _ () dX8_goes_217 rfl ekn hP hD hS
        · exact absurd c196 (by decide)
      · refine ta_nv (y := 0) h4 ?_
        refine lv_istore_n (lv' := [(3, .int (nI 0)), (2, .int (nI 4294967295)), (1, .int (nI 1)), (0, .ref (z 0))]) hx hb dX8_goes_44 rfl hl (by decide) rfl (fun ls hl => ?_)
        refine lv_iload_n hx hb dX8_goes_45 rfl (lv_at hl 0 rfl) ?_
        refine ta_iconst C 4294967295 dX8_goes_46 (by decide) ?_
        refine lv_icmp_eq (tgt := 174) hx hb dX8_goes_47 (by decide) (fun c198 => ?_) (fun c198 => ?_)
        · exact absurd c198 (by decide)
        · refine lv_iload_n hx hb dX8_goes_50 rfl (lv_at hl 0 rfl) ?_
          refine lv_if_eq (tgt := 59) hx hb dX8_goes_51 (by decide) (fun c199 => ?_) (fun c199 => ?_)
          · refine lv_aload_n hx hb dX8_goes_59 rfl (lv_at hl 3 rfl) ?_
            refine lv_aload_n hx hb dX8_goes_60 rfl (lv_at hl 3 rfl) ?_
            refine ta_get C hP 0 inlX8 rfl rfl 4 (by decide) tw_128 rfl dX8_goes_61 ?_
            refine ta_iconst C 3 dX8_goes_64 (by decide) ?_
            refine ta_iald C hP 2 rfl (i := 3) (by omega) dX8_goes_65 ?_
            refine ta_callVv (As := [.int (nI (g1 3))]) (rest0 := []) (Wr := []) C hP hD hS (c_X8_steps l D k z ty kn no at_ so sr va t g1 (g1 3) hok1 e3) 0 rfl rfl rfl [0, 1, 2] [] rfl rfl (by decide) (by decide) (by decide) tw_489 tw_486 tw_5 tw_487 tw_488 ⟨by decide, by decide, rfl⟩ ⟨Nat.le_of_ble_eq_true rfl, Nat.le_of_ble_eq_true rfl⟩ ⟨Nat.zero_le _, Nat.zero_le _⟩ hl.1 rfl (Nat.le_of_ble_eq_true rfl) dX8_goes_66 (fun u201 H locs h202 hP hD hS => ?_)
            have hP : va_P D vwCl [(z 0, .inr (8, [.ref (z 1), .int (nI ty), .ref (z 2), .ref (z 3), .ref (z 4), .ref (z 5), .int (nI kn), .ref (z 6), .ref (z 7), .ref (z 8), .int (nI no), .int (nI at_), .int (nI so), .int (nI sr), .int (nI va), .ref (z 9)])), (z 2, .inl (k.1 0, 23, .inl (ta_e t))), (z 4, .inl (k.1 0, 66, .inl (ta_e (tg_step t g1 (g1 3)))))] H := hP
            have hD : va_D A [(z 0, .inr (8, [.ref (z 1), .int (nI ty), .ref (z 2), .ref (z 3), .ref (z 4), .ref (z 5), .int (nI kn), .ref (z 6), .ref (z 7), .ref (z 8), .int (nI no), .int (nI at_), .int (nI so), .int (nI sr), .int (nI va), .ref (z 9)])), (z 2, .inl (k.1 0, 23, .inl (ta_e t))), (z 4, .inl (k.1 0, 66, .inl (ta_e (tg_step t g1 (g1 3)))))] := hD
            refine lv_iload_n hx hb dX8_goes_69 rfl (lv_at hl 0 rfl) ?_
            refine ta_iconst C 2 dX8_goes_70 (by decide) ?_
            refine lv_icmp_ne (tgt := 84) hx hb dX8_goes_71 (by decide) (fun c203 => ?_) (fun c203 => ?_)
            · refine lv_iload_n hx hb dX8_goes_84 rfl (lv_at hl 0 rfl) ?_
              refine ta_iconst C 1 dX8_goes_85 (by decide) ?_
              refine lv_icmp_ne (tgt := 103) hx hb dX8_goes_86 (by decide) (fun c204 => ?_) (fun c204 => ?_)
              · refine lv_iload_n hx hb dX8_goes_103 rfl (lv_at hl 0 rfl) ?_
                refine ta_iconst C 3 dX8_goes_104 (by decide) ?_
                refine lv_icmp_ne (tgt := 124) hx hb dX8_goes_105 (by decide) (fun c205 => ?_) (fun c205 => ?_)
                · refine lv_iload_n hx hb dX8_goes_124 rfl (lv_at hl 0 rfl) ?_
                  refine ta_iconst C 4 dX8_goes_125 (by decide) ?_
                  refine lv_icmp_ne (tgt := 144) hx hb dX8_goes_126 (by decide) (fun c206 => ?_) (fun c206 => ?_)
                  · obtain ⟨g2, hg2⟩ : ∃ z, z = tg_step t g1 (g1 3) := ⟨_, rfl⟩
                    rw [← hg2] at hP hD
                    have eact : tg_act t g1 1 = g2 := by rw [hg2]; unfold tg_act; rw [if_pos h4]
                    have k5 : g2 5 = g1 5 := by rw [← eact]; exact tg_act_k (by omega) e2 (by omega) (by omega) (by omega)
                    have hP : va_P D vwCl [(z 0, .inr (8, [.ref (z 1), .int (nI ty), .ref (z 2), .ref (z 3), .ref (z 4), .ref (z 5), .int (nI kn), .ref (z 6), .ref (z 7), .ref (z 8), .int (nI no), .int (nI at_), .int (nI so), .int (nI sr), .int (nI va), .ref (z 9)])), (z 2, .inl (k.1 0, 23, .inl (ta_e t))), (z 4, .inl (k.1 0, 66, .inl (ta_e g2)))] H := hP
                    have hD : va_D A [(z 0, .inr (8, [.ref (z 1), .int (nI ty), .ref (z 2), .ref (z 3), .ref (z 4), .ref (z 5), .int (nI kn), .ref (z 6), .ref (z 7), .ref (z 8), .int (nI no), .int (nI at_), .int (nI so), .int (nI sr), .int (nI va), .ref (z 9)])), (z 2, .inl (k.1 0, 23, .inl (ta_e t))), (z 4, .inl (k.1 0, 66, .inl (ta_e g2)))] := hD
                    refine lv_aload_n hx hb dX8_goes_144 rfl (lv_at hl 3 rfl) ?_
                    refine ta_get C hP 0 inlX8 rfl rfl 4 (by decide) tw_128 rfl dX8_goes_145 ?_
                    refine ta_iconst C 5 dX8_goes_148 (by decide) ?_
                    refine lv_dup2_11 hx hb dX8_goes_149 rfl rfl ?_
                    refine ta_iald C hP 2 rfl (i := 5) (by omega) dX8_goes_150 ?_
                    refine ta_iconst C 1 dX8_goes_151 (by decide) ?_
                    refine ta_isub C (a := g2 5) (b := 1) (by omega) dX8_goes_152 ?_
                    refine ta_iast C hP hD hS 2 rfl (i := 5) (v := (g2 5) - 1) (by omega) dX8_goes_153 (fun H locs hP hD hS => ?_)
                    have hP : va_P D vwCl [(z 0, .inr (8, [.ref (z 1), .int (nI ty), .ref (z 2), .ref (z 3), .ref (z 4), .ref (z 5), .int (nI kn), .ref (z 6), .ref (z 7), .ref (z 8), .int (nI no), .int (nI at_), .int (nI so), .int (nI sr), .int (nI va), .ref (z 9)])), (z 2, .inl (k.1 0, 23, .inl (ta_e t))), (z 4, .inl (k.1 0, 66, .inl (ta_e (ta_u g2 5 ((g2 5) - 1)))))] H := hP
                    have hD : va_D A [(z 0, .inr (8, [.ref (z 1), .int (nI ty), .ref (z 2), .ref (z 3), .ref (z 4), .ref (z 5), .int (nI kn), .ref (z 6), .ref (z 7), .ref (z 8), .int (nI no), .int (nI at_), .int (nI so), .int (nI sr), .int (nI va), .ref (z 9)])), (z 2, .inl (k.1 0, 23, .inl (ta_e t))), (z 4, .inl (k.1 0, 66, .inl (ta_e (ta_u g2 5 ((g2 5) - 1)))))] := hD
                    refine lv_aload_n hx hb dX8_goes_154 rfl (lv_at hl 3 rfl) ?_
                    refine ta_get C hP 0 inlX8 rfl rfl 4 (by decide) tw_128 rfl dX8_goes_155 ?_
                    refine ta_iconst C 4 dX8_goes_158 (by decide) ?_
                    refine lv_aload_n hx hb dX8_goes_159 rfl (lv_at hl 3 rfl) ?_
                    refine ta_get C hP 0 inlX8 rfl rfl 4 (by decide) tw_128 rfl dX8_goes_160 ?_
                    refine ta_iconst C 5 dX8_goes_163 (by decide) ?_
                    refine ta_iald C hP 2 rfl (i := 5) (by omega) dX8_goes_164 ?_
                    refine ta_nv (y := (g2 5) - 1) ta_us ?_
                    refine ta_ine C (a := (g2 5) - 1) (tgt := 172) (by omega) dX8_goes_165 (by decide) (fun c207 => ?_) (fun c207 => ?_)
                    · refine lv_iload_n hx hb dX8_goes_172 rfl (lv_at hl 0 rfl) ?_
                      refine ta_iast C hP hD hS 2 rfl (i := 4) (v := 0) (by omega) dX8_goes_173 (fun H locs hP hD hS => ?_)
                      have hP : va_P D vwCl [(z 0, .inr (8, [.ref (z 1), .int (nI ty), .ref (z 2), .ref (z 3), .ref (z 4), .ref (z 5), .int (nI kn), .ref (z 6), .ref (z 7), .ref (z 8), .int (nI no), .int (nI at_), .int (nI so), .int (nI sr), .int (nI va), .ref (z 9)])), (z 2, .inl (k.1 0, 23, .inl (ta_e t))), (z 4, .inl (k.1 0, 66, .inl (ta_e (ta_u (ta_u g2 5 ((g2 5) - 1)) 4 0))))] H := hP
                      have hD : va_D A [(z 0, .inr (8, [.ref (z 1), .int (nI ty), .ref (z 2), .ref (z 3), .ref (z 4), .ref (z 5), .int (nI kn), .ref (z 6), .ref (z 7), .ref (z 8), .int (nI no), .int (nI at_), .int (nI so), .int (nI sr), .int (nI va), .ref (z 9)])), (z 2, .inl (k.1 0, 23, .inl (ta_e t))), (z 4, .inl (k.1 0, 66, .inl (ta_e (ta_u (ta_u g2 5 ((g2 5) - 1)) 4 0))))] := hD
                      obtain ⟨g3, hg3⟩ : ∃ z, z = ta_u (ta_u g2 5 ((g2 5) - 1)) 4 0 := ⟨_, rfl⟩
                      rw [← hg3] at hP hD
                      have edo : tg_do t g1 1 = g3 := by unfold tg_do; rw [hg3, eact, k5, if_neg (by omega), h4]
                      have ego : tg_go t g = tg_wind t g3 1 := by unfold tg_go; rw [epre, ← ha, if_neg (by omega), edo]
                      have k1 : g3 1 = g1 1 := by rw [← edo]; exact tg_do_k (by omega) e2 (by omega) (by omega) (by omega) (by omega) (by omega)
                      have hP : va_P D vwCl [(z 0, .inr (8, [.ref (z 1), .int (nI ty), .ref (z 2), .ref (z 3), .ref (z 4), .ref (z 5), .int (nI kn), .ref (z 6), .ref (z 7), .ref (z 8), .int (nI no), .int (nI at_), .int (nI so), .int (nI sr), .int (nI va), .ref (z 9)])), (z 2, .inl (k.1 0, 23, .inl (ta_e t))), (z 4, .inl (k.1 0, 66, .inl (ta_e g3)))] H := hP
                      have hD : va_D A [(z 0, .inr (8, [.ref (z 1), .int (nI ty), .ref (z 2), .ref (z 3), .ref (z 4), .ref (z 5), .int (nI kn), .ref (z 6), .ref (z 7), .ref (z 8), .int (nI no), .int (nI at_), .int (nI so), .int (nI sr), .int (nI va), .ref (z 9)])), (z 2, .inl (k.1 0, 23, .inl (ta_e t))), (z 4, .inl (k.1 0, 66, .inl (ta_e g3)))] := hD
                      refine lv_aload_n hx hb dX8_goes_174 rfl (lv_at hl 3 rfl) ?_
                      refine ta_get C hP 0 inlX8 rfl rfl 4 (by decide) tw_128 rfl dX8_goes_175 ?_
                      refine ta_iconst C 1 dX8_goes_178 (by decide) ?_
                      refine lv_dup2_11 hx hb dX8_goes_179 rfl rfl ?_
                      refine ta_iald C hP 2 rfl (i := 1) (by omega) dX8_goes_180 ?_
                      refine ta_iconst C 1 dX8_goes_181 (by decide) ?_
                      refine ta_iadd C (a := g3 1) (b := 1) dX8_goes_182 ?_
                      refine ta_iast C hP hD hS 2 rfl (i := 1) (v := (g3 1) + 1) (by omega) dX8_goes_183 (fun H locs hP hD hS => ?_)
                      have hP : va_P D vwCl [(z 0, .inr (8, [.ref (z 1), .int (nI ty), .ref (z 2), .ref (z 3), .ref (z 4), .ref (z 5), .int (nI kn), .ref (z 6), .ref (z 7), .ref (z 8), .int (nI no), .int (nI at_), .int (nI so), .int (nI sr), .int (nI va), .ref (z 9)])), (z 2, .inl (k.1 0, 23, .inl (ta_e t))), (z 4, .inl (k.1 0, 66, .inl (ta_e (ta_u g3 1 ((g3 1) + 1)))))] H := hP
                      have hD : va_D A [(z 0, .inr (8, [.ref (z 1), .int (nI ty), .ref (z 2), .ref (z 3), .ref (z 4), .ref (z 5), .int (nI kn), .ref (z 6), .ref (z 7), .ref (z 8), .int (nI no), .int (nI at_), .int (nI so), .int (nI sr), .int (nI va), .ref (z 9)])), (z 2, .inl (k.1 0, 23, .inl (ta_e t))), (z 4, .inl (k.1 0, 66, .inl (ta_e (ta_u g3 1 ((g3 1) + 1)))))] := hD
                      refine lv_aload_n hx hb dX8_goes_184 rfl (lv_at hl 3 rfl) ?_
                      refine ta_get C hP 0 inlX8 rfl rfl 4 (by decide) tw_128 rfl dX8_goes_185 ?_
                      refine ta_iconst C 1 dX8_goes_188 (by decide) ?_
                      refine ta_iald C hP 2 rfl (i := 1) (by omega) dX8_goes_189 ?_
                      refine ta_nv (y := (g3 1) + 1) ta_us ?_
                      refine lv_aload_n hx hb dX8_goes_190 rfl (lv_at hl 3 rfl) ?_
                      refine ta_get C hP 0 inlX8 rfl rfl 2 (by decide) tw_126 rfl dX8_goes_191 ?_
                      refine ta_iconst C 2 dX8_goes_194 (by decide) ?_
                      refine ta_iald C hP 1 rfl (i := 2) (by omega) dX8_goes_195 ?_
                      refine ta_cne C (a := (g3 1) + 1) (b := t 2) (tgt := 216) (by omega) (by omega) dX8_goes_196 (by decide) (fun c208 => ?_) (fun c208 => ?_)
                      · refine lv_iload_n hx hb dX8_goes_216 rfl (lv_at hl 1 rfl) ?_
                        have e : ta_u g3 1 ((g3 1) + 1) = tg_go t g := by rw [ego]; unfold tg_wind; rw [if_neg (by omega)]
                        have ekn : nI 4294967295 = nI (tg_kn g) := by unfold tg_kn; rw [epre, ← ha]; first | rw [if_pos (by omega)] | rw [if_neg (by omega)]
                        rw [e] at hP hD
                        exact ret _ () dX8_goes_217 rfl ekn hP hD hS
                      · refine lv_aload_n hx hb dX8_goes_199 rfl (lv_at hl 3 rfl) ?_
                        refine ta_get C hP 0 inlX8 rfl rfl 4 (by decide) tw_128 rfl dX8_goes_200 ?_
                        refine ta_iconst C 1 dX8_goes_203 (by decide) ?_
                        refine ta_iconst C 0 dX8_goes_204 (by decide) ?_
                        refine ta_iast C hP hD hS 2 rfl (i := 1) (v := 0) (by omega) dX8_goes_205 (fun H locs hP hD hS => ?_)
                        have hP : va_P D vwCl [(z 0, .inr (8, [.ref (z 1), .int (nI ty), .ref (z 2), .ref (z 3), .ref (z 4), .ref (z 5), .int (nI kn), .ref (z 6), .ref (z 7), .ref (z 8), .int (nI no), .int (nI at_), .int (nI so), .int (nI sr), .int (nI va), .ref (z 9)])), (z 2, .inl (k.1 0, 23, .inl (ta_e t))), (z 4, .inl (k.1 0, 66, .inl (ta_e (ta_u (ta_u g3 1 ((g3 1) + 1)) 1 0))))] H := hP
                        have hD : va_D A [(z 0, .inr (8, [.ref (z 1), .int (nI ty), .ref (z 2), .ref (z 3), .ref (z 4), .ref (z 5), .int (nI kn), .ref (z 6), .ref (z 7), .ref (z 8), .int (nI no), .int (nI at_), .int (nI so), .int (nI sr), .int (nI va), .ref (z 9)])), (z 2, .inl (k.1 0, 23, .inl (ta_e t))), (z 4, .inl (k.1 0, 66, .inl (ta_e (ta_u (ta_u g3 1 ((g3 1) + 1)) 1 0))))] := hD
                        refine lv_aload_n hx hb dX8_goes_206 rfl (lv_at hl 3 rfl) ?_
                        refine ta_get C hP 0 inlX8 rfl rfl 4 (by decide) tw_128 rfl dX8_goes_207 ?_
                        refine ta_iconst C 0 dX8_goes_210 (by decide) ?_
                        refine lv_dup2_11 hx hb dX8_goes_211 rfl rfl ?_
                        refine ta_iald C hP 2 rfl (i := 0) (by omega) dX8_goes_212 ?_
                        refine ta_nv (y := (ta_u g3 1 ((g3 1) + 1)) 0) (ta_un (by decide)) ?_
                        refine ta_nv (y := g3 0) (ta_un (by decide)) ?_
                        refine ta_iconst C 1 dX8_goes_213 (by decide) ?_
                        refine ta_iadd C (a := g3 0) (b := 1) dX8_goes_214 ?_
                        refine ta_iast C hP hD hS 2 rfl (i := 0) (v := (g3 0) + 1) (by omega) dX8_goes_215 (fun H locs hP hD hS => ?_)
                        have hP : va_P D vwCl [(z 0, .inr (8, [.ref (z 1), .int (nI ty), .ref (z 2), .ref (z 3), .ref (z 4), .ref (z 5), .int (nI kn), .ref (z 6), .ref (z 7), .ref (z 8), .int (nI no), .int (nI at_), .int (nI so), .int (nI sr), .int (nI va), .ref (z 9)])), (z 2, .inl (k.1 0, 23, .inl (ta_e t))), (z 4, .inl (k.1 0, 66, .inl (ta_e (ta_u (ta_u (ta_u g3 1 ((g3 1) + 1)) 1 0) 0 ((g3 0) + 1)))))] H := hP
                        have hD : va_D A [(z 0, .inr (8, [.ref (z 1), .int (nI ty), .ref (z 2), .ref (z 3), .ref (z 4), .ref (z 5), .int (nI kn), .ref (z 6), .ref (z 7), .ref (z 8), .int (nI no), .int (nI at_), .int (nI so), .int (nI sr), .int (nI va), .ref (z 9)])), (z 2, .inl (k.1 0, 23, .inl (ta_e t))), (z 4, .inl (k.1 0, 66, .inl (ta_e (ta_u (ta_u (ta_u g3 1 ((g3 1) + 1)) 1 0) 0 ((g3 0) + 1)))))] := hD
                        refine lv_iload_n hx hb dX8_goes_216 rfl (lv_at hl 1 rfl) ?_
                        have e : ta_u (ta_u (ta_u g3 1 ((g3 1) + 1)) 1 0) 0 ((g3 0) + 1) = tg_go t g := by rw [ego]; unfold tg_wind; rw [if_pos (by omega), ta_uu]
                        have ekn : nI 4294967295 = nI (tg_kn g) := by unfold tg_kn; rw [epre, ← ha]; first | rw [if_pos (by omega)] | rw [if_neg (by omega)]
                        rw [e] at hP hD
                        exact ret _ () dX8_goes_217 rfl ekn hP hD hS
                    · refine ta_iconst C 4294967295 dX8_goes_168 (by decide) ?_
                      refine lv_goto (tgt := 173) hx hb dX8_goes_169 (by decide) ?_
                      refine ta_iast C hP hD hS 2 rfl (i := 4) (v := 4294967295) (by omega) dX8_goes_173 (fun H locs hP hD hS => ?_)
                      have hP : va_P D vwCl [(z 0, .inr (8, [.ref (z 1), .int (nI ty), .ref (z 2), .ref (z 3), .ref (z 4), .ref (z 5), .int (nI kn), .ref (z 6), .ref (z 7), .ref (z 8), .int (nI no), .int (nI at_), .int (nI so), .int (nI sr), .int (nI va), .ref (z 9)])), (z 2, .inl (k.1 0, 23, .inl (ta_e t))), (z 4, .inl (k.1 0, 66, .inl (ta_e (ta_u (ta_u g2 5 ((g2 5) - 1)) 4 4294967295))))] H := hP
                      have hD : va_D A [(z 0, .inr (8, [.ref (z 1), .int (nI ty), .ref (z 2), .ref (z 3), .ref (z 4), .ref (z 5), .int (nI kn), .ref (z 6), .ref (z 7), .ref (z 8), .int (nI no), .int (nI at_), .int (nI so), .int (nI sr), .int (nI va), .ref (z 9)])), (z 2, .inl (k.1 0, 23, .inl (ta_e t))), (z 4, .inl (k.1 0, 66, .inl (ta_e (ta_u (ta_u g2 5 ((g2 5) - 1)) 4 4294967295))))] := hD
                      obtain ⟨g3, hg3⟩ : ∃ z, z = ta_u (ta_u g2 5 ((g2 5) - 1)) 4 4294967295 := ⟨_, rfl⟩
                      rw [← hg3] at hP hD
                      have edo : tg_do t g1 1 = g3 := by unfold tg_do; rw [hg3, eact, k5, if_pos (by omega)]
                      have ego : tg_go t g = tg_wind t g3 1 := by unfold tg_go; rw [epre, ← ha, if_neg (by omega), edo]
                      have k1 : g3 1 = g1 1 := by rw [← edo]; exact tg_do_k (by omega) e2 (by omega) (by omega) (by omega) (by omega) (by omega)
                      have hP : va_P D vwCl [(z 0, .inr (8, [.ref (z 1), .int (nI ty), .ref (z 2), .ref (z 3), .ref (z 4), .ref (z 5), .int (nI kn), .ref (z 6), .ref (z 7), .ref (z 8), .int (nI no), .int (nI at_), .int (nI so), .int (nI sr), .int (nI va), .ref (z 9)])), (z 2, .inl (k.1 0, 23, .inl (ta_e t))), (z 4, .inl (k.1 0, 66, .inl (ta_e g3)))] H := hP
                      have hD : va_D A [(z 0, .inr (8, [.ref (z 1), .int (nI ty), .ref (z 2), .ref (z 3), .ref (z 4), .ref (z 5), .int (nI kn), .ref (z 6), .ref (z 7), .ref (z 8), .int (nI no), .int (nI at_), .int (nI so), .int (nI sr), .int (nI va), .ref (z 9)])), (z 2, .inl (k.1 0, 23, .inl (ta_e t))), (z 4, .inl (k.1 0, 66, .inl (ta_e g3)))] := hD
                      refine lv_aload_n hx hb dX8_goes_174 rfl (lv_at hl 3 rfl) ?_
                      refine ta_get C hP 0 inlX8 rfl rfl 4 (by decide) tw_128 rfl dX8_goes_175 ?_
                      refine ta_iconst C 1 dX8_goes_178 (by decide) ?_
                      refine lv_dup2_11 hx hb dX8_goes_179 rfl rfl ?_
                      refine ta_iald C hP 2 rfl (i := 1) (by omega) dX8_goes_180 ?_
                      refine ta_iconst C 1 dX8_goes_181 (by decide) ?_
                      refine ta_iadd C (a := g3 1) (b := 1) dX8_goes_182 ?_
                      refine ta_iast C hP hD hS 2 rfl (i := 1) (v := (g3 1) + 1) (by omega) dX8_goes_183 (fun H locs hP hD hS => ?_)
                      have hP : va_P D vwCl [(z 0, .inr (8, [.ref (z 1), .int (nI ty), .ref (z 2), .ref (z 3), .ref (z 4), .ref (z 5), .int (nI kn), .ref (z 6), .ref (z 7), .ref (z 8), .int (nI no), .int (nI at_), .int (nI so), .int (nI sr), .int (nI va), .ref (z 9)])), (z 2, .inl (k.1 0, 23, .inl (ta_e t))), (z 4, .inl (k.1 0, 66, .inl (ta_e (ta_u g3 1 ((g3 1) + 1)))))] H := hP
                      have hD : va_D A [(z 0, .inr (8, [.ref (z 1), .int (nI ty), .ref (z 2), .ref (z 3), .ref (z 4), .ref (z 5), .int (nI kn), .ref (z 6), .ref (z 7), .ref (z 8), .int (nI no), .int (nI at_), .int (nI so), .int (nI sr), .int (nI va), .ref (z 9)])), (z 2, .inl (k.1 0, 23, .inl (ta_e t))), (z 4, .inl (k.1 0, 66, .inl (ta_e (ta_u g3 1 ((g3 1) + 1)))))] := hD
                      refine lv_aload_n hx hb dX8_goes_184 rfl (lv_at hl 3 rfl) ?_
                      refine ta_get C hP 0 inlX8 rfl rfl 4 (by decide) tw_128 rfl dX8_goes_185 ?_
                      refine ta_iconst C 1 dX8_goes_188 (by decide) ?_
                      refine ta_iald C hP 2 rfl (i := 1) (by omega) dX8_goes_189 ?_
                      refine ta_nv (y := (g3 1) + 1) ta_us ?_
                      refine lv_aload_n hx hb dX8_goes_190 rfl (lv_at hl 3 rfl) ?_
                      refine ta_get C hP 0 inlX8 rfl rfl 2 (by decide) tw_126 rfl dX8_goes_191 ?_
                      refine ta_iconst C 2 dX8_goes_194 (by decide) ?_
                      refine ta_iald C hP 1 rfl (i := 2) (by omega) dX8_goes_195 ?_
                      refine ta_cne C (a := (g3 1) + 1) (b := t 2) (tgt := 216) (by omega) (by omega) dX8_goes_196 (by decide) (fun c209 => ?_) (fun c209 => ?_)
                      · refine lv_iload_n hx hb dX8_goes_216 rfl (lv_at hl 1 rfl) ?_
                        have e : ta_u g3 1 ((g3 1) + 1) = tg_go t g := by rw [ego]; unfold tg_wind; rw [if_neg (by omega)]
                        have ekn : nI 4294967295 = nI (tg_kn g) := by unfold tg_kn; rw [epre, ← ha]; first | rw [if_pos (by omega)] | rw [if_neg (by omega)]
                        rw [e] at hP hD
                        exact ret _ () dX8_goes_217 rfl ekn hP hD hS
                      · refine lv_aload_n hx hb dX8_goes_199 rfl (lv_at hl 3 rfl) ?_
                        refine ta_get C hP 0 inlX8 rfl rfl 4 (by decide) tw_128 rfl dX8_goes_200 ?_
                        refine ta_iconst C 1 dX8_goes_203 (by decide) ?_
                        refine ta_iconst C 0 dX8_goes_204 (by decide) ?_
                        refine ta_iast C hP hD hS 2 rfl (i := 1) (v := 0) (by omega) dX8_goes_205 (fun H locs hP hD hS => ?_)
                        have hP : va_P D vwCl [(z 0, .inr (8, [.ref (z 1), .int (nI ty), .ref (z 2), .ref (z 3), .ref (z 4), .ref (z 5), .int (nI kn), .ref (z 6), .ref (z 7), .ref (z 8), .int (nI no), .int (nI at_), .int (nI so), .int (nI sr), .int (nI va), .ref (z 9)])), (z 2, .inl (k.1 0, 23, .inl (ta_e t))), (z 4, .inl (k.1 0, 66, .inl (ta_e (ta_u (ta_u g3 1 ((g3 1) + 1)) 1 0))))] H := hP
                        have hD : va_D A [(z 0, .inr (8, [.ref (z 1), .int (nI ty), .ref (z 2), .ref (z 3), .ref (z 4), .ref (z 5), .int (nI kn), .ref (z 6), .ref (z 7), .ref (z 8), .int (nI no), .int (nI at_), .int (nI so), .int (nI sr), .int (nI va), .ref (z 9)])), (z 2, .inl (k.1 0, 23, .inl (ta_e t))), (z 4, .inl (k.1 0, 66, .inl (ta_e (ta_u (ta_u g3 1 ((g3 1) + 1)) 1 0))))] := hD
                        refine lv_aload_n hx hb dX8_goes_206 rfl (lv_at hl 3 rfl) ?_
                        refine ta_get C hP 0 inlX8 rfl rfl 4 (by decide) tw_128 rfl dX8_goes_207 ?_
                        refine ta_iconst C 0 dX8_goes_210 (by decide) ?_
                        refine lv_dup2_11 hx hb dX8_goes_211 rfl rfl ?_
                        refine ta_iald C hP 2 rfl (i := 0) (by omega) dX8_goes_212 ?_
                        refine ta_nv (y := (ta_u g3 1 ((g3 1) + 1)) 0) (ta_un (by decide)) ?_
                        refine ta_nv (y := g3 0) (ta_un (by decide)) ?_
                        refine ta_iconst C 1 dX8_goes_213 (by decide) ?_
                        refine ta_iadd C (a := g3 0) (b := 1) dX8_goes_214 ?_
                        refine ta_iast C hP hD hS 2 rfl (i := 0) (v := (g3 0) + 1) (by omega) dX8_goes_215 (fun H locs hP hD hS => ?_)
                        have hP : va_P D vwCl [(z 0, .inr (8, [.ref (z 1), .int (nI ty), .ref (z 2), .ref (z 3), .ref (z 4), .ref (z 5), .int (nI kn), .ref (z 6), .ref (z 7), .ref (z 8), .int (nI no), .int (nI at_), .int (nI so), .int (nI sr), .int (nI va), .ref (z 9)])), (z 2, .inl (k.1 0, 23, .inl (ta_e t))), (z 4, .inl (k.1 0, 66, .inl (ta_e (ta_u (ta_u (ta_u g3 1 ((g3 1) + 1)) 1 0) 0 ((g3 0) + 1)))))] H := hP
                        have hD : va_D A [(z 0, .inr (8, [.ref (z 1), .int (nI ty), .ref (z 2), .ref (z 3), .ref (z 4), .ref (z 5), .int (nI kn), .ref (z 6), .ref (z 7), .ref (z 8), .int (nI no), .int (nI at_), .int (nI so), .int (nI sr), .int (nI va), .ref (z 9)])), (z 2, .inl (k.1 0, 23, .inl (ta_e t))), (z 4, .inl (k.1 0, 66, .inl (ta_e (ta_u (ta_u (ta_u g3 1 ((g3 1) + 1)) 1 0) 0 ((g3 0) + 1)))))] := hD
                        refine lv_iload_n hx hb dX8_goes_216 rfl (lv_at hl 1 rfl) ?_
                        have e : ta_u (ta_u (ta_u g3 1 ((g3 1) + 1)) 1 0) 0 ((g3 0) + 1) = tg_go t g := by rw [ego]; unfold tg_wind; rw [if_pos (by omega), ta_uu]
                        have ekn : nI 4294967295 = nI (tg_kn g) := by unfold tg_kn; rw [epre, ← ha]; first | rw [if_pos (by omega)] | rw [if_neg (by omega)]
                        rw [e] at hP hD
                        exact ret _ () dX8_goes_217 rfl ekn hP hD hS
                  · exact absurd c206 (by decide)
                · exact absurd c205 (by decide)
              · exact absurd c204 (by decide)
            · exact absurd c203 (by decide)
          · exact absurd c199 (by decide)
      · refine ta_nv (y := 1) h4 ?_
        refine lv_istore_n (lv' := [(3, .int (nI 1)), (2, .int (nI 4294967295)), (1, .int (nI 1)), (0, .ref (z 0))]) hx hb dX8_goes_44 rfl hl (by decide) rfl (fun ls hl => ?_)
        refine lv_iload_n hx hb dX8_goes_45 rfl (lv_at hl 0 rfl) ?_
        refine ta_iconst C 4294967295 dX8_goes_46 (by decide) ?_
        refine lv_icmp_eq (tgt := 174) hx hb dX8_goes_47 (by decide) (fun c210 => ?_) (fun c210 => ?_)
        · exact absurd c210 (by decide)
        · refine lv_iload_n hx hb dX8_goes_50 rfl (lv_at hl 0 rfl) ?_
          refine lv_if_eq (tgt := 59) hx hb dX8_goes_51 (by decide) (fun c211 => ?_) (fun c211 => ?_)
          · exact absurd c211 (by decide)
          · refine lv_iload_n hx hb dX8_goes_54 rfl (lv_at hl 0 rfl) ?_
            refine ta_iconst C 2 dX8_goes_55 (by decide) ?_
            refine lv_icmp_ne (tgt := 69) hx hb dX8_goes_56 (by decide) (fun c212 => ?_) (fun c212 => ?_)
            · refine lv_iload_n hx hb dX8_goes_69 rfl (lv_at hl 0 rfl) ?_
              refine ta_iconst C 2 dX8_goes_70 (by decide) ?_
              refine lv_icmp_ne (tgt := 84) hx hb dX8_goes_71 (by decide) (fun c213 => ?_) (fun c213 => ?_)
              · refine lv_iload_n hx hb dX8_goes_84 rfl (lv_at hl 0 rfl) ?_
                refine ta_iconst C 1 dX8_goes_85 (by decide) ?_
                refine lv_icmp_ne (tgt := 103) hx hb dX8_goes_86 (by decide) (fun c214 => ?_) (fun c214 => ?_)
                · exact absurd c214 (by decide)
                · refine lv_aload_n hx hb dX8_goes_89 rfl (lv_at hl 3 rfl) ?_
                  refine lv_aload_n hx hb dX8_goes_90 rfl (lv_at hl 3 rfl) ?_
                  refine ta_get C hP 0 inlX8 rfl rfl 4 (by decide) tw_128 rfl dX8_goes_91 ?_
                  refine ta_iconst C 3 dX8_goes_94 (by decide) ?_
                  refine ta_iald C hP 2 rfl (i := 3) (by omega) dX8_goes_95 ?_
                  refine ta_iconst C 2 dX8_goes_96 (by decide) ?_
                  refine ta_iadd C (a := g1 3) (b := 2) dX8_goes_97 ?_
                  refine ta_iconst C 4 dX8_goes_98 (by decide) ?_
                  refine ta_irem C (a := (g1 3) + 2) (b := 4) (by omega) (by omega) (by omega) dX8_goes_99 ?_
                  refine ta_callVv (As := [.int (nI (((g1 3) + 2) % 4))]) (rest0 := []) (Wr := []) C hP hD hS (c_X8_steps l D k z ty kn no at_ so sr va t g1 (((g1 3) + 2) % 4) hok1 (by omega)) 0 rfl rfl rfl [0, 1, 2] [] rfl rfl (by decide) (by decide) (by decide) tw_489 tw_486 tw_5 tw_487 tw_488 ⟨by decide, by decide, rfl⟩ ⟨Nat.le_of_ble_eq_true rfl, Nat.le_of_ble_eq_true rfl⟩ ⟨Nat.zero_le _, Nat.zero_le _⟩ hl.1 rfl (Nat.le_of_ble_eq_true rfl) dX8_goes_100 (fun u216 H locs h217 hP hD hS => ?_)
                  have hP : va_P D vwCl [(z 0, .inr (8, [.ref (z 1), .int (nI ty), .ref (z 2), .ref (z 3), .ref (z 4), .ref (z 5), .int (nI kn), .ref (z 6), .ref (z 7), .ref (z 8), .int (nI no), .int (nI at_), .int (nI so), .int (nI sr), .int (nI va), .ref (z 9)])), (z 2, .inl (k.1 0, 23, .inl (ta_e t))), (z 4, .inl (k.1 0, 66, .inl (ta_e (tg_step t g1 (((g1 3) + 2) % 4)))))] H := hP
                  have hD : va_D A [(z 0, .inr (8, [.ref (z 1), .int (nI ty), .ref (z 2), .ref (z 3), .ref (z 4), .ref (z 5), .int (nI kn), .ref (z 6), .ref (z 7), .ref (z 8), .int (nI no), .int (nI at_), .int (nI so), .int (nI sr), .int (nI va), .ref (z 9)])), (z 2, .inl (k.1 0, 23, .inl (ta_e t))), (z 4, .inl (k.1 0, 66, .inl (ta_e (tg_step t g1 (((g1 3) + 2) % 4)))))] := hD
                  refine lv_iload_n hx hb dX8_goes_103 rfl (lv_at hl 0 rfl) ?_
                  refine ta_iconst C 3 dX8_goes_104 (by decide) ?_
                  refine lv_icmp_ne (tgt := 124) hx hb dX8_goes_105 (by decide) (fun c218 => ?_) (fun c218 => ?_)
                  · refine lv_iload_n hx hb dX8_goes_124 rfl (lv_at hl 0 rfl) ?_
                    refine ta_iconst C 4 dX8_goes_125 (by decide) ?_
                    refine lv_icmp_ne (tgt := 144) hx hb dX8_goes_126 (by decide) (fun c219 => ?_) (fun c219 => ?_)
                    · obtain ⟨g2, hg2⟩ : ∃ z, z = tg_step t g1 (((g1 3) + 2) % 4) := ⟨_, rfl⟩
                      rw [← hg2] at hP hD
                      have eact : tg_act t g1 1 = g2 := by rw [hg2]; unfold tg_act; rw [if_neg (by omega), if_pos h4]
                      have k5 : g2 5 = g1 5 := by rw [← eact]; exact tg_act_k (by omega) e2 (by omega) (by omega) (by omega)
                      have hP : va_P D vwCl [(z 0, .inr (8, [.ref (z 1), .int (nI ty), .ref (z 2), .ref (z 3), .ref (z 4), .ref (z 5), .int (nI kn), .ref (z 6), .ref (z 7), .ref (z 8), .int (nI no), .int (nI at_), .int (nI so), .int (nI sr), .int (nI va), .ref (z 9)])), (z 2, .inl (k.1 0, 23, .inl (ta_e t))), (z 4, .inl (k.1 0, 66, .inl (ta_e g2)))] H := hP
                      have hD : va_D A [(z 0, .inr (8, [.ref (z 1), .int (nI ty), .ref (z 2), .ref (z 3), .ref (z 4), .ref (z 5), .int (nI kn), .ref (z 6), .ref (z 7), .ref (z 8), .int (nI no), .int (nI at_), .int (nI so), .int (nI sr), .int (nI va), .ref (z 9)])), (z 2, .inl (k.1 0, 23, .inl (ta_e t))), (z 4, .inl (k.1 0, 66, .inl (ta_e g2)))] := hD
                      refine lv_aload_n hx hb dX8_goes_144 rfl (lv_at hl 3 rfl) ?_
                      refine ta_get C hP 0 inlX8 rfl rfl 4 (by decide) tw_128 rfl dX8_goes_145 ?_
                      refine ta_iconst C 5 dX8_goes_148 (by decide) ?_
                      refine lv_dup2_11 hx hb dX8_goes_149 rfl rfl ?_
                      refine ta_iald C hP 2 rfl (i := 5) (by omega) dX8_goes_150 ?_
                      refine ta_iconst C 1 dX8_goes_151 (by decide) ?_
                      refine ta_isub C (a := g2 5) (b := 1) (by omega) dX8_goes_152 ?_
                      refine ta_iast C hP hD hS 2 rfl (i := 5) (v := (g2 5) - 1) (by omega) dX8_goes_153 (fun H locs hP hD hS => ?_)
                      have hP : va_P D vwCl [(z 0, .inr (8, [.ref (z 1), .int (nI ty), .ref (z 2), .ref (z 3), .ref (z 4), .ref (z 5), .int (nI kn), .ref (z 6), .ref (z 7), .ref (z 8), .int (nI no), .int (nI at_), .int (nI so), .int (nI sr), .int (nI va), .ref (z 9)])), (z 2, .inl (k.1 0, 23, .inl (ta_e t))), (z 4, .inl (k.1 0, 66, .inl (ta_e (ta_u g2 5 ((g2 5) - 1)))))] H := hP
                      have hD : va_D A [(z 0, .inr (8, [.ref (z 1), .int (nI ty), .ref (z 2), .ref (z 3), .ref (z 4), .ref (z 5), .int (nI kn), .ref (z 6), .ref (z 7), .ref (z 8), .int (nI no), .int (nI at_), .int (nI so), .int (nI sr), .int (nI va), .ref (z 9)])), (z 2, .inl (k.1 0, 23, .inl (ta_e t))), (z 4, .inl (k.1 0, 66, .inl (ta_e (ta_u g2 5 ((g2 5) - 1)))))] := hD
                      refine lv_aload_n hx hb dX8_goes_154 rfl (lv_at hl 3 rfl) ?_
                      refine ta_get C hP 0 inlX8 rfl rfl 4 (by decide) tw_128 rfl dX8_goes_155 ?_
                      refine ta_iconst C 4 dX8_goes_158 (by decide) ?_
                      refine lv_aload_n hx hb dX8_goes_159 rfl (lv_at hl 3 rfl) ?_
                      refine ta_get C hP 0 inlX8 rfl rfl 4 (by decide) tw_128 rfl dX8_goes_160 ?_
                      refine ta_iconst C 5 dX8_goes_163 (by decide) ?_
                      refine ta_iald C hP 2 rfl (i := 5) (by omega) dX8_goes_164 ?_
                      refine ta_nv (y := (g2 5) - 1) ta_us ?_
                      refine ta_ine C (a := (g2 5) - 1) (tgt := 172) (by omega) dX8_goes_165 (by decide) (fun c220 => ?_) (fun c220 => ?_)
                      · refine lv_iload_n hx hb dX8_goes_172 rfl (lv_at hl 0 rfl) ?_
                        refine ta_iast C hP hD hS 2 rfl (i := 4) (v := 1) (by omega) dX8_goes_173 (fun H locs hP hD hS => ?_)
                        have hP : va_P D vwCl [(z 0, .inr (8, [.ref (z 1), .int (nI ty), .ref (z 2), .ref (z 3), .ref (z 4), .ref (z 5), .int (nI kn), .ref (z 6), .ref (z 7), .ref (z 8), .int (nI no), .int (nI at_), .int (nI so), .int (nI sr), .int (nI va), .ref (z 9)])), (z 2, .inl (k.1 0, 23, .inl (ta_e t))), (z 4, .inl (k.1 0, 66, .inl (ta_e (ta_u (ta_u g2 5 ((g2 5) - 1)) 4 1))))] H := hP
                        have hD : va_D A [(z 0, .inr (8, [.ref (z 1), .int (nI ty), .ref (z 2), .ref (z 3), .ref (z 4), .ref (z 5), .int (nI kn), .ref (z 6), .ref (z 7), .ref (z 8), .int (nI no), .int (nI at_), .int (nI so), .int (nI sr), .int (nI va), .ref (z 9)])), (z 2, .inl (k.1 0, 23, .inl (ta_e t))), (z 4, .inl (k.1 0, 66, .inl (ta_e (ta_u (ta_u g2 5 ((g2 5) - 1)) 4 1))))] := hD
                        obtain ⟨g3, hg3⟩ : ∃ z, z = ta_u (ta_u g2 5 ((g2 5) - 1)) 4 1 := ⟨_, rfl⟩
                        rw [← hg3] at hP hD
                        have edo : tg_do t g1 1 = g3 := by unfold tg_do; rw [hg3, eact, k5, if_neg (by omega), h4]
                        have ego : tg_go t g = tg_wind t g3 1 := by unfold tg_go; rw [epre, ← ha, if_neg (by omega), edo]
                        have k1 : g3 1 = g1 1 := by rw [← edo]; exact tg_do_k (by omega) e2 (by omega) (by omega) (by omega) (by omega) (by omega)
                        have hP : va_P D vwCl [(z 0, .inr (8, [.ref (z 1), .int (nI ty), .ref (z 2), .ref (z 3), .ref (z 4), .ref (z 5), .int (nI kn), .ref (z 6), .ref (z 7), .ref (z 8), .int (nI no), .int (nI at_), .int (nI so), .int (nI sr), .int (nI va), .ref (z 9)])), (z 2, .inl (k.1 0, 23, .inl (ta_e t))), (z 4, .inl (k.1 0, 66, .inl (ta_e g3)))] H := hP
                        have hD : va_D A [(z 0, .inr (8, [.ref (z 1), .int (nI ty), .ref (z 2), .ref (z 3), .ref (z 4), .ref (z 5), .int (nI kn), .ref (z 6), .ref (z 7), .ref (z 8), .int (nI no), .int (nI at_), .int (nI so), .int (nI sr), .int (nI va), .ref (z 9)])), (z 2, .inl (k.1 0, 23, .inl (ta_e t))), (z 4, .inl (k.1 0, 66, .inl (ta_e g3)))] := hD
                        refine lv_aload_n hx hb dX8_goes_174 rfl (lv_at hl 3 rfl) ?_
                        refine ta_get C hP 0 inlX8 rfl rfl 4 (by decide) tw_128 rfl dX8_goes_175 ?_
                        refine ta_iconst C 1 dX8_goes_178 (by decide) ?_
                        refine lv_dup2_11 hx hb dX8_goes_179 rfl rfl ?_
                        refine ta_iald C hP 2 rfl (i := 1) (by omega) dX8_goes_180 ?_
                        refine ta_iconst C 1 dX8_goes_181 (by decide) ?_
                        refine ta_iadd C (a := g3 1) (b := 1) dX8_goes_182 ?_
                        refine ta_iast C hP hD hS 2 rfl (i := 1) (v := (g3 1) + 1) (by omega) dX8_goes_183 (fun H locs hP hD hS => ?_)
                        have hP : va_P D vwCl [(z 0, .inr (8, [.ref (z 1), .int (nI ty), .ref (z 2), .ref (z 3), .ref (z 4), .ref (z 5), .int (nI kn), .ref (z 6), .ref (z 7), .ref (z 8), .int (nI no), .int (nI at_), .int (nI so), .int (nI sr), .int (nI va), .ref (z 9)])), (z 2, .inl (k.1 0, 23, .inl (ta_e t))), (z 4, .inl (k.1 0, 66, .inl (ta_e (ta_u g3 1 ((g3 1) + 1)))))] H := hP
                        have hD : va_D A [(z 0, .inr (8, [.ref (z 1), .int (nI ty), .ref (z 2), .ref (z 3), .ref (z 4), .ref (z 5), .int (nI kn), .ref (z 6), .ref (z 7), .ref (z 8), .int (nI no), .int (nI at_), .int (nI so), .int (nI sr), .int (nI va), .ref (z 9)])), (z 2, .inl (k.1 0, 23, .inl (ta_e t))), (z 4, .inl (k.1 0, 66, .inl (ta_e (ta_u g3 1 ((g3 1) + 1)))))] := hD
                        refine lv_aload_n hx hb dX8_goes_184 rfl (lv_at hl 3 rfl) ?_
                        refine ta_get C hP 0 inlX8 rfl rfl 4 (by decide) tw_128 rfl dX8_goes_185 ?_
                        refine ta_iconst C 1 dX8_goes_188 (by decide) ?_
                        refine ta_iald C hP 2 rfl (i := 1) (by omega) dX8_goes_189 ?_
                        refine ta_nv (y := (g3 1) + 1) ta_us ?_
                        refine lv_aload_n hx hb dX8_goes_190 rfl (lv_at hl 3 rfl) ?_
                        refine ta_get C hP 0 inlX8 rfl rfl 2 (by decide) tw_126 rfl dX8_goes_191 ?_
                        refine ta_iconst C 2 dX8_goes_194 (by decide) ?_
                        refine ta_iald C hP 1 rfl (i := 2) (by omega) dX8_goes_195 ?_
                        refine ta_cne C (a := (g3 1) + 1) (b := t 2) (tgt := 216) (by omega) (by omega) dX8_goes_196 (by decide) (fun c221 => ?_) (fun c221 => ?_)
                        · refine lv_iload_n hx hb dX8_goes_216 rfl (lv_at hl 1 rfl) ?_
                          have e : ta_u g3 1 ((g3 1) + 1) = tg_go t g := by rw [ego]; unfold tg_wind; rw [if_neg (by omega)]
                          have ekn : nI 4294967295 = nI (tg_kn g) := by unfold tg_kn; rw [epre, ← ha]; first | rw [if_pos (by omega)] | rw [if_neg (by omega)]
                          rw [e] at hP hD
                          exact ret _ () dX8_goes_217 rfl ekn hP hD hS
                        · refine lv_aload_n hx hb dX8_goes_199 rfl (lv_at hl 3 rfl) ?_
                          refine ta_get C hP 0 inlX8 rfl rfl 4 (by decide) tw_128 rfl dX8_goes_200 ?_
                          refine ta_iconst C 1 dX8_goes_203 (by decide) ?_
                          refine ta_iconst C 0 dX8_goes_204 (by decide) ?_
                          refine ta_iast C hP hD hS 2 rfl (i := 1) (v := 0) (by omega) dX8_goes_205 (fun H locs hP hD hS => ?_)
                          have hP : va_P D vwCl [(z 0, .inr (8, [.ref (z 1), .int (nI ty), .ref (z 2), .ref (z 3), .ref (z 4), .ref (z 5), .int (nI kn), .ref (z 6), .ref (z 7), .ref (z 8), .int (nI no), .int (nI at_), .int (nI so), .int (nI sr), .int (nI va), .ref (z 9)])), (z 2, .inl (k.1 0, 23, .inl (ta_e t))), (z 4, .inl (k.1 0, 66, .inl (ta_e (ta_u (ta_u g3 1 ((g3 1) + 1)) 1 0))))] H := hP
                          have hD : va_D A [(z 0, .inr (8, [.ref (z 1), .int (nI ty), .ref (z 2), .ref (z 3), .ref (z 4), .ref (z 5), .int (nI kn), .ref (z 6), .ref (z 7), .ref (z 8), .int (nI no), .int (nI at_), .int (nI so), .int (nI sr), .int (nI va), .ref (z 9)])), (z 2, .inl (k.1 0, 23, .inl (ta_e t))), (z 4, .inl (k.1 0, 66, .inl (ta_e (ta_u (ta_u g3 1 ((g3 1) + 1)) 1 0))))] := hD
                          refine lv_aload_n hx hb dX8_goes_206 rfl (lv_at hl 3 rfl) ?_
                          refine ta_get C hP 0 inlX8 rfl rfl 4 (by decide) tw_128 rfl dX8_goes_207 ?_
                          refine ta_iconst C 0 dX8_goes_210 (by decide) ?_
                          refine lv_dup2_11 hx hb dX8_goes_211 rfl rfl ?_
                          refine ta_iald C hP 2 rfl (i := 0) (by omega) dX8_goes_212 ?_
                          refine ta_nv (y := (ta_u g3 1 ((g3 1) + 1)) 0) (ta_un (by decide)) ?_
                          refine ta_nv (y := g3 0) (ta_un (by decide)) ?_
                          refine ta_iconst C 1 dX8_goes_213 (by decide) ?_
                          refine ta_iadd C (a := g3 0) (b := 1) dX8_goes_214 ?_
                          refine ta_iast C hP hD hS 2 rfl (i := 0) (v := (g3 0) + 1) (by omega) dX8_goes_215 (fun H locs hP hD hS => ?_)
                          have hP : va_P D vwCl [(z 0, .inr (8, [.ref (z 1), .int (nI ty), .ref (z 2), .ref (z 3), .ref (z 4), .ref (z 5), .int (nI kn), .ref (z 6), .ref (z 7), .ref (z 8), .int (nI no), .int (nI at_), .int (nI so), .int (nI sr), .int (nI va), .ref (z 9)])), (z 2, .inl (k.1 0, 23, .inl (ta_e t))), (z 4, .inl (k.1 0, 66, .inl (ta_e (ta_u (ta_u (ta_u g3 1 ((g3 1) + 1)) 1 0) 0 ((g3 0) + 1)))))] H := hP
                          have hD : va_D A [(z 0, .inr (8, [.ref (z 1), .int (nI ty), .ref (z 2), .ref (z 3), .ref (z 4), .ref (z 5), .int (nI kn), .ref (z 6), .ref (z 7), .ref (z 8), .int (nI no), .int (nI at_), .int (nI so), .int (nI sr), .int (nI va), .ref (z 9)])), (z 2, .inl (k.1 0, 23, .inl (ta_e t))), (z 4, .inl (k.1 0, 66, .inl (ta_e (ta_u (ta_u (ta_u g3 1 ((g3 1) + 1)) 1 0) 0 ((g3 0) + 1)))))] := hD
                          refine lv_iload_n hx hb dX8_goes_216 rfl (lv_at hl 1 rfl) ?_
                          have e : ta_u (ta_u (ta_u g3 1 ((g3 1) + 1)) 1 0) 0 ((g3 0) + 1) = tg_go t g := by rw [ego]; unfold tg_wind; rw [if_pos (by omega), ta_uu]
                          have ekn : nI 4294967295 = nI (tg_kn g) := by unfold tg_kn; rw [epre, ← ha]; first | rw [if_pos (by omega)] | rw [if_neg (by omega)]
                          rw [e] at hP hD
                          exact ret _ () dX8_goes_217 rfl ekn hP hD hS
                      · refine ta_iconst C 4294967295 dX8_goes_168 (by decide) ?_
                        refine lv_goto (tgt := 173) hx hb dX8_goes_169 (by decide) ?_
                        refine ta_iast C hP hD hS 2 rfl (i := 4) (v := 4294967295) (by omega) dX8_goes_173 (fun H locs hP hD hS => ?_)
                        have hP : va_P D vwCl [(z 0, .inr (8, [.ref (z 1), .int (nI ty), .ref (z 2), .ref (z 3), .ref (z 4), .ref (z 5), .int (nI kn), .ref (z 6), .ref (z 7), .ref (z 8), .int (nI no), .int (nI at_), .int (nI so), .int (nI sr), .int (nI va), .ref (z 9)])), (z 2, .inl (k.1 0, 23, .inl (ta_e t))), (z 4, .inl (k.1 0, 66, .inl (ta_e (ta_u (ta_u g2 5 ((g2 5) - 1)) 4 4294967295))))] H := hP
                        have hD : va_D A [(z 0, .inr (8, [.ref (z 1), .int (nI ty), .ref (z 2), .ref (z 3), .ref (z 4), .ref (z 5), .int (nI kn), .ref (z 6), .ref (z 7), .ref (z 8), .int (nI no), .int (nI at_), .int (nI so), .int (nI sr), .int (nI va), .ref (z 9)])), (z 2, .inl (k.1 0, 23, .inl (ta_e t))), (z 4, .inl (k.1 0, 66, .inl (ta_e (ta_u (ta_u g2 5 ((g2 5) - 1)) 4 4294967295))))] := hD
                        obtain ⟨g3, hg3⟩ : ∃ z, z = ta_u (ta_u g2 5 ((g2 5) - 1)) 4 4294967295 := ⟨_, rfl⟩
                        rw [← hg3] at hP hD
                        have edo : tg_do t g1 1 = g3 := by unfold tg_do; rw [hg3, eact, k5, if_pos (by omega)]
                        have ego : tg_go t g = tg_wind t g3 1 := by unfold tg_go; rw [epre, ← ha, if_neg (by omega), edo]
                        have k1 : g3 1 = g1 1 := by rw [← edo]; exact tg_do_k (by omega) e2 (by omega) (by omega) (by omega) (by omega) (by omega)
                        have hP : va_P D vwCl [(z 0, .inr (8, [.ref (z 1), .int (nI ty), .ref (z 2), .ref (z 3), .ref (z 4), .ref (z 5), .int (nI kn), .ref (z 6), .ref (z 7), .ref (z 8), .int (nI no), .int (nI at_), .int (nI so), .int (nI sr), .int (nI va), .ref (z 9)])), (z 2, .inl (k.1 0, 23, .inl (ta_e t))), (z 4, .inl (k.1 0, 66, .inl (ta_e g3)))] H := hP
                        have hD : va_D A [(z 0, .inr (8, [.ref (z 1), .int (nI ty), .ref (z 2), .ref (z 3), .ref (z 4), .ref (z 5), .int (nI kn), .ref (z 6), .ref (z 7), .ref (z 8), .int (nI no), .int (nI at_), .int (nI so), .int (nI sr), .int (nI va), .ref (z 9)])), (z 2, .inl (k.1 0, 23, .inl (ta_e t))), (z 4, .inl (k.1 0, 66, .inl (ta_e g3)))] := hD
                        refine lv_aload_n hx hb dX8_goes_174 rfl (lv_at hl 3 rfl) ?_
                        refine ta_get C hP 0 inlX8 rfl rfl 4 (by decide) tw_128 rfl dX8_goes_175 ?_
                        refine ta_iconst C 1 dX8_goes_178 (by decide) ?_
                        refine lv_dup2_11 hx hb dX8_goes_179 rfl rfl ?_
                        refine ta_iald C hP 2 rfl (i := 1) (by omega) dX8_goes_180 ?_
                        refine ta_iconst C 1 dX8_goes_181 (by decide) ?_
                        refine ta_iadd C (a := g3 1) (b := 1) dX8_goes_182 ?_
                        refine ta_iast C hP hD hS 2 rfl (i := 1) (v := (g3 1) + 1) (by omega) dX8_goes_183 (fun H locs hP hD hS => ?_)
                        have hP : va_P D vwCl [(z 0, .inr (8, [.ref (z 1), .int (nI ty), .ref (z 2), .ref (z 3), .ref (z 4), .ref (z 5), .int (nI kn), .ref (z 6), .ref (z 7), .ref (z 8), .int (nI no), .int (nI at_), .int (nI so), .int (nI sr), .int (nI va), .ref (z 9)])), (z 2, .inl (k.1 0, 23, .inl (ta_e t))), (z 4, .inl (k.1 0, 66, .inl (ta_e (ta_u g3 1 ((g3 1) + 1)))))] H := hP
                        have hD : va_D A [(z 0, .inr (8, [.ref (z 1), .int (nI ty), .ref (z 2), .ref (z 3), .ref (z 4), .ref (z 5), .int (nI kn), .ref (z 6), .ref (z 7), .ref (z 8), .int (nI no), .int (nI at_), .int (nI so), .int (nI sr), .int (nI va), .ref (z 9)])), (z 2, .inl (k.1 0, 23, .inl (ta_e t))), (z 4, .inl (k.1 0, 66, .inl (ta_e (ta_u g3 1 ((g3 1) + 1)))))] := hD
                        refine lv_aload_n hx hb dX8_goes_184 rfl (lv_at hl 3 rfl) ?_
                        refine ta_get C hP 0 inlX8 rfl rfl 4 (by decide) tw_128 rfl dX8_goes_185 ?_
                        refine ta_iconst C 1 dX8_goes_188 (by decide) ?_
                        refine ta_iald C hP 2 rfl (i := 1) (by omega) dX8_goes_189 ?_
                        refine ta_nv (y := (g3 1) + 1) ta_us ?_
                        refine lv_aload_n hx hb dX8_goes_190 rfl (lv_at hl 3 rfl) ?_
                        refine ta_get C hP 0 inlX8 rfl rfl 2 (by decide) tw_126 rfl dX8_goes_191 ?_
                        refine ta_iconst C 2 dX8_goes_194 (by decide) ?_
                        refine ta_iald C hP 1 rfl (i := 2) (by omega) dX8_goes_195 ?_
                        refine ta_cne C (a := (g3 1) + 1) (b := t 2) (tgt := 216) (by omega) (by omega) dX8_goes_196 (by decide) (fun c222 => ?_) (fun c222 => ?_)
                        · refine lv_iload_n hx hb dX8_goes_216 rfl (lv_at hl 1 rfl) ?_
                          have e : ta_u g3 1 ((g3 1) + 1) = tg_go t g := by rw [ego]; unfold tg_wind; rw [if_neg (by omega)]
                          have ekn : nI 4294967295 = nI (tg_kn g) := by unfold tg_kn; rw [epre, ← ha]; first | rw [if_pos (by omega)] | rw [if_neg (by omega)]
                          rw [e] at hP hD
                          exact ret _ () dX8_goes_217 rfl ekn hP hD hS
                        · refine lv_aload_n hx hb dX8_goes_199 rfl (lv_at hl 3 rfl) ?_
                          refine ta_get C hP 0 inlX8 rfl rfl 4 (by decide) tw_128 rfl dX8_goes_200 ?_
                          refine ta_iconst C 1 dX8_goes_203 (by decide) ?_
                          refine ta_iconst C 0 dX8_goes_204 (by decide) ?_
                          refine ta_iast C hP hD hS 2 rfl (i := 1) (v := 0) (by omega) dX8_goes_205 (fun H locs hP hD hS => ?_)
                          have hP : va_P D vwCl [(z 0, .inr (8, [.ref (z 1), .int (nI ty), .ref (z 2), .ref (z 3), .ref (z 4), .ref (z 5), .int (nI kn), .ref (z 6), .ref (z 7), .ref (z 8), .int (nI no), .int (nI at_), .int (nI so), .int (nI sr), .int (nI va), .ref (z 9)])), (z 2, .inl (k.1 0, 23, .inl (ta_e t))), (z 4, .inl (k.1 0, 66, .inl (ta_e (ta_u (ta_u g3 1 ((g3 1) + 1)) 1 0))))] H := hP
                          have hD : va_D A [(z 0, .inr (8, [.ref (z 1), .int (nI ty), .ref (z 2), .ref (z 3), .ref (z 4), .ref (z 5), .int (nI kn), .ref (z 6), .ref (z 7), .ref (z 8), .int (nI no), .int (nI at_), .int (nI so), .int (nI sr), .int (nI va), .ref (z 9)])), (z 2, .inl (k.1 0, 23, .inl (ta_e t))), (z 4, .inl (k.1 0, 66, .inl (ta_e (ta_u (ta_u g3 1 ((g3 1) + 1)) 1 0))))] := hD
                          refine lv_aload_n hx hb dX8_goes_206 rfl (lv_at hl 3 rfl) ?_
                          refine ta_get C hP 0 inlX8 rfl rfl 4 (by decide) tw_128 rfl dX8_goes_207 ?_
                          refine ta_iconst C 0 dX8_goes_210 (by decide) ?_
                          refine lv_dup2_11 hx hb dX8_goes_211 rfl rfl ?_
                          refine ta_iald C hP 2 rfl (i := 0) (by omega) dX8_goes_212 ?_
                          refine ta_nv (y := (ta_u g3 1 ((g3 1) + 1)) 0) (ta_un (by decide)) ?_
                          refine ta_nv (y := g3 0) (ta_un (by decide)) ?_
                          refine ta_iconst C 1 dX8_goes_213 (by decide) ?_
                          refine ta_iadd C (a := g3 0) (b := 1) dX8_goes_214 ?_
                          refine ta_iast C hP hD hS 2 rfl (i := 0) (v := (g3 0) + 1) (by omega) dX8_goes_215 (fun H locs hP hD hS => ?_)
                          have hP : va_P D vwCl [(z 0, .inr (8, [.ref (z 1), .int (nI ty), .ref (z 2), .ref (z 3), .ref (z 4), .ref (z 5), .int (nI kn), .ref (z 6), .ref (z 7), .ref (z 8), .int (nI no), .int (nI at_), .int (nI so), .int (nI sr), .int (nI va), .ref (z 9)])), (z 2, .inl (k.1 0, 23, .inl (ta_e t))), (z 4, .inl (k.1 0, 66, .inl (ta_e (ta_u (ta_u (ta_u g3 1 ((g3 1) + 1)) 1 0) 0 ((g3 0) + 1)))))] H := hP
                          have hD : va_D A [(z 0, .inr (8, [.ref (z 1), .int (nI ty), .ref (z 2), .ref (z 3), .ref (z 4), .ref (z 5), .int (nI kn), .ref (z 6), .ref (z 7), .ref (z 8), .int (nI no), .int (nI at_), .int (nI so), .int (nI sr), .int (nI va), .ref (z 9)])), (z 2, .inl (k.1 0, 23, .inl (ta_e t))), (z 4, .inl (k.1 0, 66, .inl (ta_e (ta_u (ta_u (ta_u g3 1 ((g3 1) + 1)) 1 0) 0 ((g3 0) + 1)))))] := hD
                          refine lv_iload_n hx hb dX8_goes_216 rfl (lv_at hl 1 rfl) ?_
                          have e : ta_u (ta_u (ta_u g3 1 ((g3 1) + 1)) 1 0) 0 ((g3 0) + 1) = tg_go t g := by rw [ego]; unfold tg_wind; rw [if_pos (by omega), ta_uu]
                          have ekn : nI 4294967295 = nI (tg_kn g) := by unfold tg_kn; rw [epre, ← ha]; first | rw [if_pos (by omega)] | rw [if_neg (by omega)]
                          rw [e] at hP hD
                          exact ret _ () dX8_goes_217 rfl ekn hP hD hS
                    · exact absurd c219 (by decide)
                  · exact absurd c218 (by decide)
              · exact absurd c213 (by decide)
            · exact absurd c212 (by decide)
      · refine ta_nv (y := 2) h4 ?_
        refine lv_istore_n (lv' := [(3, .int (nI 2)), (2, .int (nI 4294967295)), (1, .int (nI 1)), (0, .ref (z 0))]) hx hb dX8_goes_44 rfl hl (by decide) rfl (fun ls hl => ?_)
        refine lv_iload_n hx hb dX8_goes_45 rfl (lv_at hl 0 rfl) ?_
        refine ta_iconst C 4294967295 dX8_goes_46 (by decide) ?_
        refine lv_icmp_eq (tgt := 174) hx hb dX8_goes_47 (by decide) (fun c223 => ?_) (fun c223 => ?_)
        · exact absurd c223 (by decide)
        · refine lv_iload_n hx hb dX8_goes_50 rfl (lv_at hl 0 rfl) ?_
          refine lv_if_eq (tgt := 59) hx hb dX8_goes_51 (by decide) (fun c224 => ?_) (fun c224 => ?_)
          · exact absurd c224 (by decide)
          · refine lv_iload_n hx hb dX8_goes_54 rfl (lv_at hl 0 rfl) ?_
            refine ta_iconst C 2 dX8_goes_55 (by decide) ?_
            refine lv_icmp_ne (tgt := 69) hx hb dX8_goes_56 (by decide) (fun c225 => ?_) (fun c225 => ?_)
            · exact absurd c225 (by decide)
            · refine lv_aload_n hx hb dX8_goes_59 rfl (lv_at hl 3 rfl) ?_
              refine lv_aload_n hx hb dX8_goes_60 rfl (lv_at hl 3 rfl) ?_
              refine ta_get C hP 0 inlX8 rfl rfl 4 (by decide) tw_128 rfl dX8_goes_61 ?_
              refine ta_iconst C 3 dX8_goes_64 (by decide) ?_
              refine ta_iald C hP 2 rfl (i := 3) (by omega) dX8_goes_65 ?_
              refine ta_callVv (As := [.int (nI (g1 3))]) (rest0 := []) (Wr := []) C hP hD hS (c_X8_steps l D k z ty kn no at_ so sr va t g1 (g1 3) hok1 e3) 0 rfl rfl rfl [0, 1, 2] [] rfl rfl (by decide) (by decide) (by decide) tw_489 tw_486 tw_5 tw_487 tw_488 ⟨by decide, by decide, rfl⟩ ⟨Nat.le_of_ble_eq_true rfl, Nat.le_of_ble_eq_true rfl⟩ ⟨Nat.zero_le _, Nat.zero_le _⟩ hl.1 rfl (Nat.le_of_ble_eq_true rfl) dX8_goes_66 (fun u227 H locs h228 hP hD hS => ?_)
              have hP : va_P D vwCl [(z 0, .inr (8, [.ref (z 1), .int (nI ty), .ref (z 2), .ref (z 3), .ref (z 4), .ref (z 5), .int (nI kn), .ref (z 6), .ref (z 7), .ref (z 8), .int (nI no), .int (nI at_), .int (nI so), .int (nI sr), .int (nI va), .ref (z 9)])), (z 2, .inl (k.1 0, 23, .inl (ta_e t))), (z 4, .inl (k.1 0, 66, .inl (ta_e (tg_step t g1 (g1 3)))))] H := hP
              have hD : va_D A [(z 0, .inr (8, [.ref (z 1), .int (nI ty), .ref (z 2), .ref (z 3), .ref (z 4), .ref (z 5), .int (nI kn), .ref (z 6), .ref (z 7), .ref (z 8), .int (nI no), .int (nI at_), .int (nI so), .int (nI sr), .int (nI va), .ref (z 9)])), (z 2, .inl (k.1 0, 23, .inl (ta_e t))), (z 4, .inl (k.1 0, 66, .inl (ta_e (tg_step t g1 (g1 3)))))] := hD
              refine lv_iload_n hx hb dX8_goes_69 rfl (lv_at hl 0 rfl) ?_
              refine ta_iconst C 2 dX8_goes_70 (by decide) ?_
              refine lv_icmp_ne (tgt := 84) hx hb dX8_goes_71 (by decide) (fun c229 => ?_) (fun c229 => ?_)
              · exact absurd c229 (by decide)
              · refine lv_aload_n hx hb dX8_goes_74 rfl (lv_at hl 3 rfl) ?_
                refine lv_aload_n hx hb dX8_goes_75 rfl (lv_at hl 3 rfl) ?_
                refine ta_get C hP 0 inlX8 rfl rfl 4 (by decide) tw_128 rfl dX8_goes_76 ?_
                refine ta_iconst C 3 dX8_goes_79 (by decide) ?_
                refine ta_iald C hP 2 rfl (i := 3) (by omega) dX8_goes_80 ?_
                refine ta_callVv (As := [.int (nI ((tg_step t g1 (g1 3)) 3))]) (rest0 := []) (Wr := []) C hP hD hS (c_X8_steps l D k z ty kn no at_ so sr va t (tg_step t g1 (g1 3)) ((tg_step t g1 (g1 3)) 3) (tg_ok_step _ hok1) (by rw [tg_step_k (by omega) e2 (by omega) (by omega)]; exact e3)) 0 rfl rfl rfl [0, 1, 2] [] rfl rfl (by decide) (by decide) (by decide) tw_489 tw_486 tw_5 tw_487 tw_488 ⟨by decide, by decide, rfl⟩ ⟨Nat.le_of_ble_eq_true rfl, Nat.le_of_ble_eq_true rfl⟩ ⟨Nat.zero_le _, Nat.zero_le _⟩ hl.1 rfl (Nat.le_of_ble_eq_true rfl) dX8_goes_81 (fun u231 H locs h232 hP hD hS => ?_)
                have hP : va_P D vwCl [(z 0, .inr (8, [.ref (z 1), .int (nI ty), .ref (z 2), .ref (z 3), .ref (z 4), .ref (z 5), .int (nI kn), .ref (z 6), .ref (z 7), .ref (z 8), .int (nI no), .int (nI at_), .int (nI so), .int (nI sr), .int (nI va), .ref (z 9)])), (z 2, .inl (k.1 0, 23, .inl (ta_e t))), (z 4, .inl (k.1 0, 66, .inl (ta_e (tg_step t (tg_step t g1 (g1 3)) ((tg_step t g1 (g1 3)) 3)))))] H := hP
                have hD : va_D A [(z 0, .inr (8, [.ref (z 1), .int (nI ty), .ref (z 2), .ref (z 3), .ref (z 4), .ref (z 5), .int (nI kn), .ref (z 6), .ref (z 7), .ref (z 8), .int (nI no), .int (nI at_), .int (nI so), .int (nI sr), .int (nI va), .ref (z 9)])), (z 2, .inl (k.1 0, 23, .inl (ta_e t))), (z 4, .inl (k.1 0, 66, .inl (ta_e (tg_step t (tg_step t g1 (g1 3)) ((tg_step t g1 (g1 3)) 3)))))] := hD
                refine lv_iload_n hx hb dX8_goes_84 rfl (lv_at hl 0 rfl) ?_
                refine ta_iconst C 1 dX8_goes_85 (by decide) ?_
                refine lv_icmp_ne (tgt := 103) hx hb dX8_goes_86 (by decide) (fun c233 => ?_) (fun c233 => ?_)
                · refine lv_iload_n hx hb dX8_goes_103 rfl (lv_at hl 0 rfl) ?_
                  refine ta_iconst C 3 dX8_goes_104 (by decide) ?_
                  refine lv_icmp_ne (tgt := 124) hx hb dX8_goes_105 (by decide) (fun c234 => ?_) (fun c234 => ?_)
                  · refine lv_iload_n hx hb dX8_goes_124 rfl (lv_at hl 0 rfl) ?_
                    refine ta_iconst C 4 dX8_goes_125 (by decide) ?_
                    refine lv_icmp_ne (tgt := 144) hx hb dX8_goes_126 (by decide) (fun c235 => ?_) (fun c235 => ?_)
                    · obtain ⟨g2, hg2⟩ : ∃ z, z = tg_step t (tg_step t g1 (g1 3)) ((tg_step t g1 (g1 3)) 3) := ⟨_, rfl⟩
                      rw [← hg2] at hP hD
                      have eact : tg_act t g1 1 = g2 := by rw [hg2, show (tg_step t g1 (g1 3)) 3 = g1 3 from tg_step_k (by omega) e2 (by omega) (by omega)]; unfold tg_act; rw [if_neg (by omega), if_neg (by omega), if_pos h4]
                      have k5 : g2 5 = g1 5 := by rw [← eact]; exact tg_act_k (by omega) e2 (by omega) (by omega) (by omega)
                      have hP : va_P D vwCl [(z 0, .inr (8, [.ref (z 1), .int (nI ty), .ref (z 2), .ref (z 3), .ref (z 4), .ref (z 5), .int (nI kn), .ref (z 6), .ref (z 7), .ref (z 8), .int (nI no), .int (nI at_), .int (nI so), .int (nI sr), .int (nI va), .ref (z 9)])), (z 2, .inl (k.1 0, 23, .inl (ta_e t))), (z 4, .inl (k.1 0, 66, .inl (ta_e g2)))] H := hP
                      have hD : va_D A [(z 0, .inr (8, [.ref (z 1), .int (nI ty), .ref (z 2), .ref (z 3), .ref (z 4), .ref (z 5), .int (nI kn), .ref (z 6), .ref (z 7), .ref (z 8), .int (nI no), .int (nI at_), .int (nI so), .int (nI sr), .int (nI va), .ref (z 9)])), (z 2, .inl (k.1 0, 23, .inl (ta_e t))), (z 4, .inl (k.1 0, 66, .inl (ta_e g2)))] := hD
                      refine lv_aload_n hx hb dX8_goes_144 rfl (lv_at hl 3 rfl) ?_
                      refine ta_get C hP 0 inlX8 rfl rfl 4 (by decide) tw_128 rfl dX8_goes_145 ?_
                      refine ta_iconst C 5 dX8_goes_148 (by decide) ?_
                      refine lv_dup2_11 hx hb dX8_goes_149 rfl rfl ?_
                      refine ta_iald C hP 2 rfl (i := 5) (by omega) dX8_goes_150 ?_
                      refine ta_iconst C 1 dX8_goes_151 (by decide) ?_
                      refine ta_isub C (a := g2 5) (b := 1) (by omega) dX8_goes_152 ?_
                      refine ta_iast C hP hD hS 2 rfl (i := 5) (v := (g2 5) - 1) (by omega) dX8_goes_153 (fun H locs hP hD hS => ?_)
                      have hP : va_P D vwCl [(z 0, .inr (8, [.ref (z 1), .int (nI ty), .ref (z 2), .ref (z 3), .ref (z 4), .ref (z 5), .int (nI kn), .ref (z 6), .ref (z 7), .ref (z 8), .int (nI no), .int (nI at_), .int (nI so), .int (nI sr), .int (nI va), .ref (z 9)])), (z 2, .inl (k.1 0, 23, .inl (ta_e t))), (z 4, .inl (k.1 0, 66, .inl (ta_e (ta_u g2 5 ((g2 5) - 1)))))] H := hP
                      have hD : va_D A [(z 0, .inr (8, [.ref (z 1), .int (nI ty), .ref (z 2), .ref (z 3), .ref (z 4), .ref (z 5), .int (nI kn), .ref (z 6), .ref (z 7), .ref (z 8), .int (nI no), .int (nI at_), .int (nI so), .int (nI sr), .int (nI va), .ref (z 9)])), (z 2, .inl (k.1 0, 23, .inl (ta_e t))), (z 4, .inl (k.1 0, 66, .inl (ta_e (ta_u g2 5 ((g2 5) - 1)))))] := hD
                      refine lv_aload_n hx hb dX8_goes_154 rfl (lv_at hl 3 rfl) ?_
                      refine ta_get C hP 0 inlX8 rfl rfl 4 (by decide) tw_128 rfl dX8_goes_155 ?_
                      refine ta_iconst C 4 dX8_goes_158 (by decide) ?_
                      refine lv_aload_n hx hb dX8_goes_159 rfl (lv_at hl 3 rfl) ?_
                      refine ta_get C hP 0 inlX8 rfl rfl 4 (by decide) tw_128 rfl dX8_goes_160 ?_
                      refine ta_iconst C 5 dX8_goes_163 (by decide) ?_
                      refine ta_iald C hP 2 rfl (i := 5) (by omega) dX8_goes_164 ?_
                      refine ta_nv (y := (g2 5) - 1) ta_us ?_
                      refine ta_ine C (a := (g2 5) - 1) (tgt := 172) (by omega) dX8_goes_165 (by decide) (fun c236 => ?_) (fun c236 => ?_)
                      · refine lv_iload_n hx hb dX8_goes_172 rfl (lv_at hl 0 rfl) ?_
                        refine ta_iast C hP hD hS 2 rfl (i := 4) (v := 2) (by omega) dX8_goes_173 (fun H locs hP hD hS => ?_)
                        have hP : va_P D vwCl [(z 0, .inr (8, [.ref (z 1), .int (nI ty), .ref (z 2), .ref (z 3), .ref (z 4), .ref (z 5), .int (nI kn), .ref (z 6), .ref (z 7), .ref (z 8), .int (nI no), .int (nI at_), .int (nI so), .int (nI sr), .int (nI va), .ref (z 9)])), (z 2, .inl (k.1 0, 23, .inl (ta_e t))), (z 4, .inl (k.1 0, 66, .inl (ta_e (ta_u (ta_u g2 5 ((g2 5) - 1)) 4 2))))] H := hP
                        have hD : va_D A [(z 0, .inr (8, [.ref (z 1), .int (nI ty), .ref (z 2), .ref (z 3), .ref (z 4), .ref (z 5), .int (nI kn), .ref (z 6), .ref (z 7), .ref (z 8), .int (nI no), .int (nI at_), .int (nI so), .int (nI sr), .int (nI va), .ref (z 9)])), (z 2, .inl (k.1 0, 23, .inl (ta_e t))), (z 4, .inl (k.1 0, 66, .inl (ta_e (ta_u (ta_u g2 5 ((g2 5) - 1)) 4 2))))] := hD
                        obtain ⟨g3, hg3⟩ : ∃ z, z = ta_u (ta_u g2 5 ((g2 5) - 1)) 4 2 := ⟨_, rfl⟩
                        rw [← hg3] at hP hD
                        have edo : tg_do t g1 1 = g3 := by unfold tg_do; rw [hg3, eact, k5, if_neg (by omega), h4]
                        have ego : tg_go t g = tg_wind t g3 1 := by unfold tg_go; rw [epre, ← ha, if_neg (by omega), edo]
                        have k1 : g3 1 = g1 1 := by rw [← edo]; exact tg_do_k (by omega) e2 (by omega) (by omega) (by omega) (by omega) (by omega)
                        have hP : va_P D vwCl [(z 0, .inr (8, [.ref (z 1), .int (nI ty), .ref (z 2), .ref (z 3), .ref (z 4), .ref (z 5), .int (nI kn), .ref (z 6), .ref (z 7), .ref (z 8), .int (nI no), .int (nI at_), .int (nI so), .int (nI sr), .int (nI va), .ref (z 9)])), (z 2, .inl (k.1 0, 23, .inl (ta_e t))), (z 4, .inl (k.1 0, 66, .inl (ta_e g3)))] H := hP
                        have hD : va_D A [(z 0, .inr (8, [.ref (z 1), .int (nI ty), .ref (z 2), .ref (z 3), .ref (z 4), .ref (z 5), .int (nI kn), .ref (z 6), .ref (z 7), .ref (z 8), .int (nI no), .int (nI at_), .int (nI so), .int (nI sr), .int (nI va), .ref (z 9)])), (z 2, .inl (k.1 0, 23, .inl (ta_e t))), (z 4, .inl (k.1 0, 66, .inl (ta_e g3)))] := hD
                        refine lv_aload_n hx hb dX8_goes_174 rfl (lv_at hl 3 rfl) ?_
                        refine ta_get C hP 0 inlX8 rfl rfl 4 (by decide) tw_128 rfl dX8_goes_175 ?_
                        refine ta_iconst C 1 dX8_goes_178 (by decide) ?_
                        refine lv_dup2_11 hx hb dX8_goes_179 rfl rfl ?_
                        refine ta_iald C hP 2 rfl (i := 1) (by omega) dX8_goes_180 ?_
                        refine ta_iconst C 1 dX8_goes_181 (by decide) ?_
                        refine ta_iadd C (a := g3 1) (b := 1) dX8_goes_182 ?_
                        refine ta_iast C hP hD hS 2 rfl (i := 1) (v := (g3 1) + 1) (by omega) dX8_goes_183 (fun H locs hP hD hS => ?_)
                        have hP : va_P D vwCl [(z 0, .inr (8, [.ref (z 1), .int (nI ty), .ref (z 2), .ref (z 3), .ref (z 4), .ref (z 5), .int (nI kn), .ref (z 6), .ref (z 7), .ref (z 8), .int (nI no), .int (nI at_), .int (nI so), .int (nI sr), .int (nI va), .ref (z 9)])), (z 2, .inl (k.1 0, 23, .inl (ta_e t))), (z 4, .inl (k.1 0, 66, .inl (ta_e (ta_u g3 1 ((g3 1) + 1)))))] H := hP
                        have hD : va_D A [(z 0, .inr (8, [.ref (z 1), .int (nI ty), .ref (z 2), .ref (z 3), .ref (z 4), .ref (z 5), .int (nI kn), .ref (z 6), .ref (z 7), .ref (z 8), .int (nI no), .int (nI at_), .int (nI so), .int (nI sr), .int (nI va), .ref (z 9)])), (z 2, .inl (k.1 0, 23, .inl (ta_e t))), (z 4, .inl (k.1 0, 66, .inl (ta_e (ta_u g3 1 ((g3 1) + 1)))))] := hD
                        refine lv_aload_n hx hb dX8_goes_184 rfl (lv_at hl 3 rfl) ?_
                        refine ta_get C hP 0 inlX8 rfl rfl 4 (by decide) tw_128 rfl dX8_goes_185 ?_
                        refine ta_iconst C 1 dX8_goes_188 (by decide) ?_
                        refine ta_iald C hP 2 rfl (i := 1) (by omega) dX8_goes_189 ?_
                        refine ta_nv (y := (g3 1) + 1) ta_us ?_
                        refine lv_aload_n hx hb dX8_goes_190 rfl (lv_at hl 3 rfl) ?_
                        refine ta_get C hP 0 inlX8 rfl rfl 2 (by decide) tw_126 rfl dX8_goes_191 ?_
                        refine ta_iconst C 2 dX8_goes_194 (by decide) ?_
                        refine ta_iald C hP 1 rfl (i := 2) (by omega) dX8_goes_195 ?_
                        refine ta_cne C (a := (g3 1) + 1) (b := t 2) (tgt := 216) (by omega) (by omega) dX8_goes_196 (by decide) (fun c237 => ?_) (fun c237 => ?_)
                        · refine lv_iload_n hx hb dX8_goes_216 rfl (lv_at hl 1 rfl) ?_
                          have e : ta_u g3 1 ((g3 1) + 1) = tg_go t g := by rw [ego]; unfold tg_wind; rw [if_neg (by omega)]
                          have ekn : nI 4294967295 = nI (tg_kn g) := by unfold tg_kn; rw [epre, ← ha]; first | rw [if_pos (by omega)] | rw [if_neg (by omega)]
                          rw [e] at hP hD
                          exact ret _ () dX8_goes_217 rfl ekn hP hD hS
                        · refine lv_aload_n hx hb dX8_goes_199 rfl (lv_at hl 3 rfl) ?_
                          refine ta_get C hP 0 inlX8 rfl rfl 4 (by decide) tw_128 rfl dX8_goes_200 ?_
                          refine ta_iconst C 1 dX8_goes_203 (by decide) ?_
                          refine ta_iconst C 0 dX8_goes_204 (by decide) ?_
                          refine ta_iast C hP hD hS 2 rfl (i := 1) (v := 0) (by omega) dX8_goes_205 (fun H locs hP hD hS => ?_)
                          have hP : va_P D vwCl [(z 0, .inr (8, [.ref (z 1), .int (nI ty), .ref (z 2), .ref (z 3), .ref (z 4), .ref (z 5), .int (nI kn), .ref (z 6), .ref (z 7), .ref (z 8), .int (nI no), .int (nI at_), .int (nI so), .int (nI sr), .int (nI va), .ref (z 9)])), (z 2, .inl (k.1 0, 23, .inl (ta_e t))), (z 4, .inl (k.1 0, 66, .inl (ta_e (ta_u (ta_u g3 1 ((g3 1) + 1)) 1 0))))] H := hP
                          have hD : va_D A [(z 0, .inr (8, [.ref (z 1), .int (nI ty), .ref (z 2), .ref (z 3), .ref (z 4), .ref (z 5), .int (nI kn), .ref (z 6), .ref (z 7), .ref (z 8), .int (nI no), .int (nI at_), .int (nI so), .int (nI sr), .int (nI va), .ref (z 9)])), (z 2, .inl (k.1 0, 23, .inl (ta_e t))), (z 4, .inl (k.1 0, 66, .inl (ta_e (ta_u (ta_u g3 1 ((g3 1) + 1)) 1 0))))] := hD
                          refine lv_aload_n hx hb dX8_goes_206 rfl (lv_at hl 3 rfl) ?_
                          refine ta_get C hP 0 inlX8 rfl rfl 4 (by decide) tw_128 rfl dX8_goes_207 ?_
                          refine ta_iconst C 0 dX8_goes_210 (by decide) ?_
                          refine lv_dup2_11 hx hb dX8_goes_211 rfl rfl ?_
                          refine ta_iald C hP 2 rfl (i := 0) (by omega) dX8_goes_212 ?_
                          refine ta_nv (y := (ta_u g3 1 ((g3 1) + 1)) 0) (ta_un (by decide)) ?_
                          refine ta_nv (y := g3 0) (ta_un (by decide)) ?_
                          refine ta_iconst C 1 dX8_goes_213 (by decide) ?_
                          refine ta_iadd C (a := g3 0) (b := 1) dX8_goes_214 ?_
                          refine ta_iast C hP hD hS 2 rfl (i := 0) (v := (g3 0) + 1) (by omega) dX8_goes_215 (fun H locs hP hD hS => ?_)
                          have hP : va_P D vwCl [(z 0, .inr (8, [.ref (z 1), .int (nI ty), .ref (z 2), .ref (z 3), .ref (z 4), .ref (z 5), .int (nI kn), .ref (z 6), .ref (z 7), .ref (z 8), .int (nI no), .int (nI at_), .int (nI so), .int (nI sr), .int (nI va), .ref (z 9)])), (z 2, .inl (k.1 0, 23, .inl (ta_e t))), (z 4, .inl (k.1 0, 66, .inl (ta_e (ta_u (ta_u (ta_u g3 1 ((g3 1) + 1)) 1 0) 0 ((g3 0) + 1)))))] H := hP
                          have hD : va_D A [(z 0, .inr (8, [.ref (z 1), .int (nI ty), .ref (z 2), .ref (z 3), .ref (z 4), .ref (z 5), .int (nI kn), .ref (z 6), .ref (z 7), .ref (z 8), .int (nI no), .int (nI at_), .int (nI so), .int (nI sr), .int (nI va), .ref (z 9)])), (z 2, .inl (k.1 0, 23, .inl (ta_e t))), (z 4, .inl (k.1 0, 66, .inl (ta_e (ta_u (ta_u (ta_u g3 1 ((g3 1) + 1)) 1 0) 0 ((g3 0) + 1)))))] := hD
                          refine lv_iload_n hx hb dX8_goes_216 rfl (lv_at hl 1 rfl) ?_
                          have e : ta_u (ta_u (ta_u g3 1 ((g3 1) + 1)) 1 0) 0 ((g3 0) + 1) = tg_go t g := by rw [ego]; unfold tg_wind; rw [if_pos (by omega), ta_uu]
                          have ekn : nI 4294967295 = nI (tg_kn g) := by unfold tg_kn; rw [epre, ← ha]; first | rw [if_pos (by omega)] | rw [if_neg (by omega)]
                          rw [e] at hP hD
                          exact ret _ () dX8_goes_217 rfl ekn hP hD hS
                      · refine ta_iconst C 4294967295 dX8_goes_168 (by decide) ?_
                        refine lv_goto (tgt := 173) hx hb dX8_goes_169 (by decide) ?_
                        refine ta_iast C hP hD hS 2 rfl (i := 4) (v := 4294967295) (by omega) dX8_goes_173 (fun H locs hP hD hS => ?_)
                        have hP : va_P D vwCl [(z 0, .inr (8, [.ref (z 1), .int (nI ty), .ref (z 2), .ref (z 3), .ref (z 4), .ref (z 5), .int (nI kn), .ref (z 6), .ref (z 7), .ref (z 8), .int (nI no), .int (nI at_), .int (nI so), .int (nI sr), .int (nI va), .ref (z 9)])), (z 2, .inl (k.1 0, 23, .inl (ta_e t))), (z 4, .inl (k.1 0, 66, .inl (ta_e (ta_u (ta_u g2 5 ((g2 5) - 1)) 4 4294967295))))] H := hP
                        have hD : va_D A [(z 0, .inr (8, [.ref (z 1), .int (nI ty), .ref (z 2), .ref (z 3), .ref (z 4), .ref (z 5), .int (nI kn), .ref (z 6), .ref (z 7), .ref (z 8), .int (nI no), .int (nI at_), .int (nI so), .int (nI sr), .int (nI va), .ref (z 9)])), (z 2, .inl (k.1 0, 23, .inl (ta_e t))), (z 4, .inl (k.1 0, 66, .inl (ta_e (ta_u (ta_u g2 5 ((g2 5) - 1)) 4 4294967295))))] := hD
                        obtain ⟨g3, hg3⟩ : ∃ z, z = ta_u (ta_u g2 5 ((g2 5) - 1)) 4 4294967295 := ⟨_, rfl⟩
                        rw [← hg3] at hP hD
                        have edo : tg_do t g1 1 = g3 := by unfold tg_do; rw [hg3, eact, k5, if_pos (by omega)]
                        have ego : tg_go t g = tg_wind t g3 1 := by unfold tg_go; rw [epre, ← ha, if_neg (by omega), edo]
                        have k1 : g3 1 = g1 1 := by rw [← edo]; exact tg_do_k (by omega) e2 (by omega) (by omega) (by omega) (by omega) (by omega)
                        have hP : va_P D vwCl [(z 0, .inr (8, [.ref (z 1), .int (nI ty), .ref (z 2), .ref (z 3), .ref (z 4), .ref (z 5), .int (nI kn), .ref (z 6), .ref (z 7), .ref (z 8), .int (nI no), .int (nI at_), .int (nI so), .int (nI sr), .int (nI va), .ref (z 9)])), (z 2, .inl (k.1 0, 23, .inl (ta_e t))), (z 4, .inl (k.1 0, 66, .inl (ta_e g3)))] H := hP
                        have hD : va_D A [(z 0, .inr (8, [.ref (z 1), .int (nI ty), .ref (z 2), .ref (z 3), .ref (z 4), .ref (z 5), .int (nI kn), .ref (z 6), .ref (z 7), .ref (z 8), .int (nI no), .int (nI at_), .int (nI so), .int (nI sr), .int (nI va), .ref (z 9)])), (z 2, .inl (k.1 0, 23, .inl (ta_e t))), (z 4, .inl (k.1 0, 66, .inl (ta_e g3)))] := hD
                        refine lv_aload_n hx hb dX8_goes_174 rfl (lv_at hl 3 rfl) ?_
                        refine ta_get C hP 0 inlX8 rfl rfl 4 (by decide) tw_128 rfl dX8_goes_175 ?_
                        refine ta_iconst C 1 dX8_goes_178 (by decide) ?_
                        refine lv_dup2_11 hx hb dX8_goes_179 rfl rfl ?_
                        refine ta_iald C hP 2 rfl (i := 1) (by omega) dX8_goes_180 ?_
                        refine ta_iconst C 1 dX8_goes_181 (by decide) ?_
                        refine ta_iadd C (a := g3 1) (b := 1) dX8_goes_182 ?_
                        refine ta_iast C hP hD hS 2 rfl (i := 1) (v := (g3 1) + 1) (by omega) dX8_goes_183 (fun H locs hP hD hS => ?_)
                        have hP : va_P D vwCl [(z 0, .inr (8, [.ref (z 1), .int (nI ty), .ref (z 2), .ref (z 3), .ref (z 4), .ref (z 5), .int (nI kn), .ref (z 6), .ref (z 7), .ref (z 8), .int (nI no), .int (nI at_), .int (nI so), .int (nI sr), .int (nI va), .ref (z 9)])), (z 2, .inl (k.1 0, 23, .inl (ta_e t))), (z 4, .inl (k.1 0, 66, .inl (ta_e (ta_u g3 1 ((g3 1) + 1)))))] H := hP
                        have hD : va_D A [(z 0, .inr (8, [.ref (z 1), .int (nI ty), .ref (z 2), .ref (z 3), .ref (z 4), .ref (z 5), .int (nI kn), .ref (z 6), .ref (z 7), .ref (z 8), .int (nI no), .int (nI at_), .int (nI so), .int (nI sr), .int (nI va), .ref (z 9)])), (z 2, .inl (k.1 0, 23, .inl (ta_e t))), (z 4, .inl (k.1 0, 66, .inl (ta_e (ta_u g3 1 ((g3 1) + 1)))))] := hD
                        refine lv_aload_n hx hb dX8_goes_184 rfl (lv_at hl 3 rfl) ?_
                        refine ta_get C hP 0 inlX8 rfl rfl 4 (by decide) tw_128 rfl dX8_goes_185 ?_
                        refine ta_iconst C 1 dX8_goes_188 (by decide) ?_
                        refine ta_iald C hP 2 rfl (i := 1) (by omega) dX8_goes_189 ?_
                        refine ta_nv (y := (g3 1) + 1) ta_us ?_
                        refine lv_aload_n hx hb dX8_goes_190 rfl (lv_at hl 3 rfl) ?_
                        refine ta_get C hP 0 inlX8 rfl rfl 2 (by decide) tw_126 rfl dX8_goes_191 ?_
                        refine ta_iconst C 2 dX8_goes_194 (by decide) ?_
                        refine ta_iald C hP 1 rfl (i := 2) (by omega) dX8_goes_195 ?_
                        refine ta_cne C (a := (g3 1) + 1) (b := t 2) (tgt := 216) (by omega) (by omega) dX8_goes_196 (by decide) (fun c238 => ?_) (fun c238 => ?_)
                        · refine lv_iload_n hx hb dX8_goes_216 rfl (lv_at hl 1 rfl) ?_
                          have e : ta_u g3 1 ((g3 1) + 1) = tg_go t g := by rw [ego]; unfold tg_wind; rw [if_neg (by omega)]
                          have ekn : nI 4294967295 = nI (tg_kn g) := by unfold tg_kn; rw [epre, ← ha]; first | rw [if_pos (by omega)] | rw [if_neg (by omega)]
                          rw [e] at hP hD
                          exact ret _ () dX8_goes_217 rfl ekn hP hD hS
                        · refine lv_aload_n hx hb dX8_goes_199 rfl (lv_at hl 3 rfl) ?_
                          refine ta_get C hP 0 inlX8 rfl rfl 4 (by decide) tw_128 rfl dX8_goes_200 ?_
                          refine ta_iconst C 1 dX8_goes_203 (by decide) ?_
                          refine ta_iconst C 0 dX8_goes_204 (by decide) ?_
                          refine ta_iast C hP hD hS 2 rfl (i := 1) (v := 0) (by omega) dX8_goes_205 (fun H locs hP hD hS => ?_)
                          have hP : va_P D vwCl [(z 0, .inr (8, [.ref (z 1), .int (nI ty), .ref (z 2), .ref (z 3), .ref (z 4), .ref (z 5), .int (nI kn), .ref (z 6), .ref (z 7), .ref (z 8), .int (nI no), .int (nI at_), .int (nI so), .int (nI sr), .int (nI va), .ref (z 9)])), (z 2, .inl (k.1 0, 23, .inl (ta_e t))), (z 4, .inl (k.1 0, 66, .inl (ta_e (ta_u (ta_u g3 1 ((g3 1) + 1)) 1 0))))] H := hP
                          have hD : va_D A [(z 0, .inr (8, [.ref (z 1), .int (nI ty), .ref (z 2), .ref (z 3), .ref (z 4), .ref (z 5), .int (nI kn), .ref (z 6), .ref (z 7), .ref (z 8), .int (nI no), .int (nI at_), .int (nI so), .int (nI sr), .int (nI va), .ref (z 9)])), (z 2, .inl (k.1 0, 23, .inl (ta_e t))), (z 4, .inl (k.1 0, 66, .inl (ta_e (ta_u (ta_u g3 1 ((g3 1) + 1)) 1 0))))] := hD
                          refine lv_aload_n hx hb dX8_goes_206 rfl (lv_at hl 3 rfl) ?_
                          refine ta_get C hP 0 inlX8 rfl rfl 4 (by decide) tw_128 rfl dX8_goes_207 ?_
                          refine ta_iconst C 0 dX8_goes_210 (by decide) ?_
                          refine lv_dup2_11 hx hb dX8_goes_211 rfl rfl ?_
                          refine ta_iald C hP 2 rfl (i := 0) (by omega) dX8_goes_212 ?_
                          refine ta_nv (y := (ta_u g3 1 ((g3 1) + 1)) 0) (ta_un (by decide)) ?_
                          refine ta_nv (y := g3 0) (ta_un (by decide)) ?_
                          refine ta_iconst C 1 dX8_goes_213 (by decide) ?_
                          refine ta_iadd C (a := g3 0) (b := 1) dX8_goes_214 ?_
                          refine ta_iast C hP hD hS 2 rfl (i := 0) (v := (g3 0) + 1) (by omega) dX8_goes_215 (fun H locs hP hD hS => ?_)
                          have hP : va_P D vwCl [(z 0, .inr (8, [.ref (z 1), .int (nI ty), .ref (z 2), .ref (z 3), .ref (z 4), .ref (z 5), .int (nI kn), .ref (z 6), .ref (z 7), .ref (z 8), .int (nI no), .int (nI at_), .int (nI so), .int (nI sr), .int (nI va), .ref (z 9)])), (z 2, .inl (k.1 0, 23, .inl (ta_e t))), (z 4, .inl (k.1 0, 66, .inl (ta_e (ta_u (ta_u (ta_u g3 1 ((g3 1) + 1)) 1 0) 0 ((g3 0) + 1)))))] H := hP
                          have hD : va_D A [(z 0, .inr (8, [.ref (z 1), .int (nI ty), .ref (z 2), .ref (z 3), .ref (z 4), .ref (z 5), .int (nI kn), .ref (z 6), .ref (z 7), .ref (z 8), .int (nI no), .int (nI at_), .int (nI so), .int (nI sr), .int (nI va), .ref (z 9)])), (z 2, .inl (k.1 0, 23, .inl (ta_e t))), (z 4, .inl (k.1 0, 66, .inl (ta_e (ta_u (ta_u (ta_u g3 1 ((g3 1) + 1)) 1 0) 0 ((g3 0) + 1)))))] := hD
                          refine lv_iload_n hx hb dX8_goes_216 rfl (lv_at hl 1 rfl) ?_
                          have e : ta_u (ta_u (ta_u g3 1 ((g3 1) + 1)) 1 0) 0 ((g3 0) + 1) = tg_go t g := by rw [ego]; unfold tg_wind; rw [if_pos (by omega), ta_uu]
                          have ekn : nI 4294967295 = nI (tg_kn g) := by unfold tg_kn; rw [epre, ← ha]; first | rw [if_pos (by omega)] | rw [if_neg (by omega)]
                          rw [e] at hP hD
                          exact ret _ () dX8_goes_217 rfl ekn hP hD hS
                    · exact absurd c235 (by decide)
                  · exact absurd c234 (by decide)
                · exact absurd c233 (by decide)
      · refine ta_nv (y := 3) h4 ?_
        refine lv_istore_n (lv' := [(3, .int (nI 3)), (2, .int (nI 4294967295)), (1, .int (nI 1)), (0, .ref (z 0))]) hx hb dX8_goes_44 rfl hl (by decide) rfl (fun ls hl => ?_)
        refine lv_iload_n hx hb dX8_goes_45 rfl (lv_at hl 0 rfl) ?_
        refine ta_iconst C 4294967295 dX8_goes_46 (by decide) ?_
        refine lv_icmp_eq (tgt := 174) hx hb dX8_goes_47 (by decide) (fun c239 => ?_) (fun c239 => ?_)
        · exact absurd c239 (by decide)
        · refine lv_iload_n hx hb dX8_goes_50 rfl (lv_at hl 0 rfl) ?_
          refine lv_if_eq (tgt := 59) hx hb dX8_goes_51 (by decide) (fun c240 => ?_) (fun c240 => ?_)
          · exact absurd c240 (by decide)
          · refine lv_iload_n hx hb dX8_goes_54 rfl (lv_at hl 0 rfl) ?_
            refine ta_iconst C 2 dX8_goes_55 (by decide) ?_
            refine lv_icmp_ne (tgt := 69) hx hb dX8_goes_56 (by decide) (fun c241 => ?_) (fun c241 => ?_)
            · refine lv_iload_n hx hb dX8_goes_69 rfl (lv_at hl 0 rfl) ?_
              refine ta_iconst C 2 dX8_goes_70 (by decide) ?_
              refine lv_icmp_ne (tgt := 84) hx hb dX8_goes_71 (by decide) (fun c242 => ?_) (fun c242 => ?_)
              · refine lv_iload_n hx hb dX8_goes_84 rfl (lv_at hl 0 rfl) ?_
                refine ta_iconst C 1 dX8_goes_85 (by decide) ?_
                refine lv_icmp_ne (tgt := 103) hx hb dX8_goes_86 (by decide) (fun c243 => ?_) (fun c243 => ?_)
                · refine lv_iload_n hx hb dX8_goes_103 rfl (lv_at hl 0 rfl) ?_
                  refine ta_iconst C 3 dX8_goes_104 (by decide) ?_
                  refine lv_icmp_ne (tgt := 124) hx hb dX8_goes_105 (by decide) (fun c244 => ?_) (fun c244 => ?_)
                  · exact absurd c244 (by decide)
                  · refine lv_aload_n hx hb dX8_goes_108 rfl (lv_at hl 3 rfl) ?_
                    refine ta_get C hP 0 inlX8 rfl rfl 4 (by decide) tw_128 rfl dX8_goes_109 ?_
                    refine ta_iconst C 3 dX8_goes_112 (by decide) ?_
                    refine lv_aload_n hx hb dX8_goes_113 rfl (lv_at hl 3 rfl) ?_
                    refine ta_get C hP 0 inlX8 rfl rfl 4 (by decide) tw_128 rfl dX8_goes_114 ?_
                    refine ta_iconst C 3 dX8_goes_117 (by decide) ?_
                    refine ta_iald C hP 2 rfl (i := 3) (by omega) dX8_goes_118 ?_
                    refine ta_iconst C 1 dX8_goes_119 (by decide) ?_
                    refine ta_iadd C (a := g1 3) (b := 1) dX8_goes_120 ?_
                    refine ta_iconst C 4 dX8_goes_121 (by decide) ?_
                    refine ta_irem C (a := (g1 3) + 1) (b := 4) (by omega) (by omega) (by omega) dX8_goes_122 ?_
                    refine ta_iast C hP hD hS 2 rfl (i := 3) (v := ((g1 3) + 1) % 4) (by omega) dX8_goes_123 (fun H locs hP hD hS => ?_)
                    have hP : va_P D vwCl [(z 0, .inr (8, [.ref (z 1), .int (nI ty), .ref (z 2), .ref (z 3), .ref (z 4), .ref (z 5), .int (nI kn), .ref (z 6), .ref (z 7), .ref (z 8), .int (nI no), .int (nI at_), .int (nI so), .int (nI sr), .int (nI va), .ref (z 9)])), (z 2, .inl (k.1 0, 23, .inl (ta_e t))), (z 4, .inl (k.1 0, 66, .inl (ta_e (ta_u g1 3 (((g1 3) + 1) % 4)))))] H := hP
                    have hD : va_D A [(z 0, .inr (8, [.ref (z 1), .int (nI ty), .ref (z 2), .ref (z 3), .ref (z 4), .ref (z 5), .int (nI kn), .ref (z 6), .ref (z 7), .ref (z 8), .int (nI no), .int (nI at_), .int (nI so), .int (nI sr), .int (nI va), .ref (z 9)])), (z 2, .inl (k.1 0, 23, .inl (ta_e t))), (z 4, .inl (k.1 0, 66, .inl (ta_e (ta_u g1 3 (((g1 3) + 1) % 4)))))] := hD
                    refine lv_iload_n hx hb dX8_goes_124 rfl (lv_at hl 0 rfl) ?_
                    refine ta_iconst C 4 dX8_goes_125 (by decide) ?_
                    refine lv_icmp_ne (tgt := 144) hx hb dX8_goes_126 (by decide) (fun c245 => ?_) (fun c245 => ?_)
                    · obtain ⟨g2, hg2⟩ : ∃ z, z = ta_u g1 3 (((g1 3) + 1) % 4) := ⟨_, rfl⟩
                      rw [← hg2] at hP hD
                      have eact : tg_act t g1 1 = g2 := by rw [hg2]; unfold tg_act; rw [if_neg (by omega), if_neg (by omega), if_neg (by omega), if_pos h4]
                      have k5 : g2 5 = g1 5 := by rw [← eact]; exact tg_act_k (by omega) e2 (by omega) (by omega) (by omega)
                      have hP : va_P D vwCl [(z 0, .inr (8, [.ref (z 1), .int (nI ty), .ref (z 2), .ref (z 3), .ref (z 4), .ref (z 5), .int (nI kn), .ref (z 6), .ref (z 7), .ref (z 8), .int (nI no), .int (nI at_), .int (nI so), .int (nI sr), .int (nI va), .ref (z 9)])), (z 2, .inl (k.1 0, 23, .inl (ta_e t))), (z 4, .inl (k.1 0, 66, .inl (ta_e g2)))] H := hP
                      have hD : va_D A [(z 0, .inr (8, [.ref (z 1), .int (nI ty), .ref (z 2), .ref (z 3), .ref (z 4), .ref (z 5), .int (nI kn), .ref (z 6), .ref (z 7), .ref (z 8), .int (nI no), .int (nI at_), .int (nI so), .int (nI sr), .int (nI va), .ref (z 9)])), (z 2, .inl (k.1 0, 23, .inl (ta_e t))), (z 4, .inl (k.1 0, 66, .inl (ta_e g2)))] := hD
                      refine lv_aload_n hx hb dX8_goes_144 rfl (lv_at hl 3 rfl) ?_
                      refine ta_get C hP 0 inlX8 rfl rfl 4 (by decide) tw_128 rfl dX8_goes_145 ?_
                      refine ta_iconst C 5 dX8_goes_148 (by decide) ?_
                      refine lv_dup2_11 hx hb dX8_goes_149 rfl rfl ?_
                      refine ta_iald C hP 2 rfl (i := 5) (by omega) dX8_goes_150 ?_
                      refine ta_iconst C 1 dX8_goes_151 (by decide) ?_
                      refine ta_isub C (a := g2 5) (b := 1) (by omega) dX8_goes_152 ?_
                      refine ta_iast C hP hD hS 2 rfl (i := 5) (v := (g2 5) - 1) (by omega) dX8_goes_153 (fun H locs hP hD hS => ?_)
                      have hP : va_P D vwCl [(z 0, .inr (8, [.ref (z 1), .int (nI ty), .ref (z 2), .ref (z 3), .ref (z 4), .ref (z 5), .int (nI kn), .ref (z 6), .ref (z 7), .ref (z 8), .int (nI no), .int (nI at_), .int (nI so), .int (nI sr), .int (nI va), .ref (z 9)])), (z 2, .inl (k.1 0, 23, .inl (ta_e t))), (z 4, .inl (k.1 0, 66, .inl (ta_e (ta_u g2 5 ((g2 5) - 1)))))] H := hP
                      have hD : va_D A [(z 0, .inr (8, [.ref (z 1), .int (nI ty), .ref (z 2), .ref (z 3), .ref (z 4), .ref (z 5), .int (nI kn), .ref (z 6), .ref (z 7), .ref (z 8), .int (nI no), .int (nI at_), .int (nI so), .int (nI sr), .int (nI va), .ref (z 9)])), (z 2, .inl (k.1 0, 23, .inl (ta_e t))), (z 4, .inl (k.1 0, 66, .inl (ta_e (ta_u g2 5 ((g2 5) - 1)))))] := hD
                      refine lv_aload_n hx hb dX8_goes_154 rfl (lv_at hl 3 rfl) ?_
                      refine ta_get C hP 0 inlX8 rfl rfl 4 (by decide) tw_128 rfl dX8_goes_155 ?_
                      refine ta_iconst C 4 dX8_goes_158 (by decide) ?_
                      refine lv_aload_n hx hb dX8_goes_159 rfl (lv_at hl 3 rfl) ?_
                      refine ta_get C hP 0 inlX8 rfl rfl 4 (by decide) tw_128 rfl dX8_goes_160 ?_
                      refine ta_iconst C 5 dX8_goes_163 (by decide) ?_
                      refine ta_iald C hP 2 rfl (i := 5) (by omega) dX8_goes_164 ?_
                      refine ta_nv (y := (g2 5) - 1) ta_us ?_
                      refine ta_ine C (a := (g2 5) - 1) (tgt := 172) (by omega) dX8_goes_165 (by decide) (fun c246 => ?_) (fun c246 => ?_)
                      · refine lv_iload_n hx hb dX8_goes_172 rfl (lv_at hl 0 rfl) ?_
                        refine ta_iast C hP hD hS 2 rfl (i := 4) (v := 3) (by omega) dX8_goes_173 (fun H locs hP hD hS => ?_)
                        have hP : va_P D vwCl [(z 0, .inr (8, [.ref (z 1), .int (nI ty), .ref (z 2), .ref (z 3), .ref (z 4), .ref (z 5), .int (nI kn), .ref (z 6), .ref (z 7), .ref (z 8), .int (nI no), .int (nI at_), .int (nI so), .int (nI sr), .int (nI va), .ref (z 9)])), (z 2, .inl (k.1 0, 23, .inl (ta_e t))), (z 4, .inl (k.1 0, 66, .inl (ta_e (ta_u (ta_u g2 5 ((g2 5) - 1)) 4 3))))] H := hP
                        have hD : va_D A [(z 0, .inr (8, [.ref (z 1), .int (nI ty), .ref (z 2), .ref (z 3), .ref (z 4), .ref (z 5), .int (nI kn), .ref (z 6), .ref (z 7), .ref (z 8), .int (nI no), .int (nI at_), .int (nI so), .int (nI sr), .int (nI va), .ref (z 9)])), (z 2, .inl (k.1 0, 23, .inl (ta_e t))), (z 4, .inl (k.1 0, 66, .inl (ta_e (ta_u (ta_u g2 5 ((g2 5) - 1)) 4 3))))] := hD
                        obtain ⟨g3, hg3⟩ : ∃ z, z = ta_u (ta_u g2 5 ((g2 5) - 1)) 4 3 := ⟨_, rfl⟩
                        rw [← hg3] at hP hD
                        have edo : tg_do t g1 1 = g3 := by unfold tg_do; rw [hg3, eact, k5, if_neg (by omega), h4]
                        have ego : tg_go t g = tg_wind t g3 1 := by unfold tg_go; rw [epre, ← ha, if_neg (by omega), edo]
                        have k1 : g3 1 = g1 1 := by rw [← edo]; exact tg_do_k (by omega) e2 (by omega) (by omega) (by omega) (by omega) (by omega)
                        have hP : va_P D vwCl [(z 0, .inr (8, [.ref (z 1), .int (nI ty), .ref (z 2), .ref (z 3), .ref (z 4), .ref (z 5), .int (nI kn), .ref (z 6), .ref (z 7), .ref (z 8), .int (nI no), .int (nI at_), .int (nI so), .int (nI sr), .int (nI va), .ref (z 9)])), (z 2, .inl (k.1 0, 23, .inl (ta_e t))), (z 4, .inl (k.1 0, 66, .inl (ta_e g3)))] H := hP
                        have hD : va_D A [(z 0, .inr (8, [.ref (z 1), .int (nI ty), .ref (z 2), .ref (z 3), .ref (z 4), .ref (z 5), .int (nI kn), .ref (z 6), .ref (z 7), .ref (z 8), .int (nI no), .int (nI at_), .int (nI so), .int (nI sr), .int (nI va), .ref (z 9)])), (z 2, .inl (k.1 0, 23, .inl (ta_e t))), (z 4, .inl (k.1 0, 66, .inl (ta_e g3)))] := hD
                        refine lv_aload_n hx hb dX8_goes_174 rfl (lv_at hl 3 rfl) ?_
                        refine ta_get C hP 0 inlX8 rfl rfl 4 (by decide) tw_128 rfl dX8_goes_175 ?_
                        refine ta_iconst C 1 dX8_goes_178 (by decide) ?_
                        refine lv_dup2_11 hx hb dX8_goes_179 rfl rfl ?_
                        refine ta_iald C hP 2 rfl (i := 1) (by omega) dX8_goes_180 ?_
                        refine ta_iconst C 1 dX8_goes_181 (by decide) ?_
                        refine ta_iadd C (a := g3 1) (b := 1) dX8_goes_182 ?_
                        refine ta_iast C hP hD hS 2 rfl (i := 1) (v := (g3 1) + 1) (by omega) dX8_goes_183 (fun H locs hP hD hS => ?_)
                        have hP : va_P D vwCl [(z 0, .inr (8, [.ref (z 1), .int (nI ty), .ref (z 2), .ref (z 3), .ref (z 4), .ref (z 5), .int (nI kn), .ref (z 6), .ref (z 7), .ref (z 8), .int (nI no), .int (nI at_), .int (nI so), .int (nI sr), .int (nI va), .ref (z 9)])), (z 2, .inl (k.1 0, 23, .inl (ta_e t))), (z 4, .inl (k.1 0, 66, .inl (ta_e (ta_u g3 1 ((g3 1) + 1)))))] H := hP
                        have hD : va_D A [(z 0, .inr (8, [.ref (z 1), .int (nI ty), .ref (z 2), .ref (z 3), .ref (z 4), .ref (z 5), .int (nI kn), .ref (z 6), .ref (z 7), .ref (z 8), .int (nI no), .int (nI at_), .int (nI so), .int (nI sr), .int (nI va), .ref (z 9)])), (z 2, .inl (k.1 0, 23, .inl (ta_e t))), (z 4, .inl (k.1 0, 66, .inl (ta_e (ta_u g3 1 ((g3 1) + 1)))))] := hD
                        refine lv_aload_n hx hb dX8_goes_184 rfl (lv_at hl 3 rfl) ?_
                        refine ta_get C hP 0 inlX8 rfl rfl 4 (by decide) tw_128 rfl dX8_goes_185 ?_
                        refine ta_iconst C 1 dX8_goes_188 (by decide) ?_
                        refine ta_iald C hP 2 rfl (i := 1) (by omega) dX8_goes_189 ?_
                        refine ta_nv (y := (g3 1) + 1) ta_us ?_
                        refine lv_aload_n hx hb dX8_goes_190 rfl (lv_at hl 3 rfl) ?_
                        refine ta_get C hP 0 inlX8 rfl rfl 2 (by decide) tw_126 rfl dX8_goes_191 ?_
                        refine ta_iconst C 2 dX8_goes_194 (by decide) ?_
                        refine ta_iald C hP 1 rfl (i := 2) (by omega) dX8_goes_195 ?_
                        refine ta_cne C (a := (g3 1) + 1) (b := t 2) (tgt := 216) (by omega) (by omega) dX8_goes_196 (by decide) (fun c247 => ?_) (fun c247 => ?_)
                        · refine lv_iload_n hx hb dX8_goes_216 rfl (lv_at hl 1 rfl) ?_
                          have e : ta_u g3 1 ((g3 1) + 1) = tg_go t g := by rw [ego]; unfold tg_wind; rw [if_neg (by omega)]
                          have ekn : nI 4294967295 = nI (tg_kn g) := by unfold tg_kn; rw [epre, ← ha]; first | rw [if_pos (by omega)] | rw [if_neg (by omega)]
                          rw [e] at hP hD
                          exact ret _ () dX8_goes_217 rfl ekn hP hD hS
                        · refine lv_aload_n hx hb dX8_goes_199 rfl (lv_at hl 3 rfl) ?_
                          refine ta_get C hP 0 inlX8 rfl rfl 4 (by decide) tw_128 rfl dX8_goes_200 ?_
                          refine ta_iconst C 1 dX8_goes_203 (by decide) ?_
                          refine ta_iconst C 0 dX8_goes_204 (by decide) ?_
                          refine ta_iast C hP hD hS 2 rfl (i := 1) (v := 0) (by omega) dX8_goes_205 (fun H locs hP hD hS => ?_)
                          have hP : va_P D vwCl [(z 0, .inr (8, [.ref (z 1), .int (nI ty), .ref (z 2), .ref (z 3), .ref (z 4), .ref (z 5), .int (nI kn), .ref (z 6), .ref (z 7), .ref (z 8), .int (nI no), .int (nI at_), .int (nI so), .int (nI sr), .int (nI va), .ref (z 9)])), (z 2, .inl (k.1 0, 23, .inl (ta_e t))), (z 4, .inl (k.1 0, 66, .inl (ta_e (ta_u (ta_u g3 1 ((g3 1) + 1)) 1 0))))] H := hP
                          have hD : va_D A [(z 0, .inr (8, [.ref (z 1), .int (nI ty), .ref (z 2), .ref (z 3), .ref (z 4), .ref (z 5), .int (nI kn), .ref (z 6), .ref (z 7), .ref (z 8), .int (nI no), .int (nI at_), .int (nI so), .int (nI sr), .int (nI va), .ref (z 9)])), (z 2, .inl (k.1 0, 23, .inl (ta_e t))), (z 4, .inl (k.1 0, 66, .inl (ta_e (ta_u (ta_u g3 1 ((g3 1) + 1)) 1 0))))] := hD
                          refine lv_aload_n hx hb dX8_goes_206 rfl (lv_at hl 3 rfl) ?_
                          refine ta_get C hP 0 inlX8 rfl rfl 4 (by decide) tw_128 rfl dX8_goes_207 ?_
                          refine ta_iconst C 0 dX8_goes_210 (by decide) ?_
                          refine lv_dup2_11 hx hb dX8_goes_211 rfl rfl ?_
                          refine ta_iald C hP 2 rfl (i := 0) (by omega) dX8_goes_212 ?_
                          refine ta_nv (y := (ta_u g3 1 ((g3 1) + 1)) 0) (ta_un (by decide)) ?_
                          refine ta_nv (y := g3 0) (ta_un (by decide)) ?_
                          refine ta_iconst C 1 dX8_goes_213 (by decide) ?_
                          refine ta_iadd C (a := g3 0) (b := 1) dX8_goes_214 ?_
                          refine ta_iast C hP hD hS 2 rfl (i := 0) (v := (g3 0) + 1) (by omega) dX8_goes_215 (fun H locs hP hD hS => ?_)
                          have hP : va_P D vwCl [(z 0, .inr (8, [.ref (z 1), .int (nI ty), .ref (z 2), .ref (z 3), .ref (z 4), .ref (z 5), .int (nI kn), .ref (z 6), .ref (z 7), .ref (z 8), .int (nI no), .int (nI at_), .int (nI so), .int (nI sr), .int (nI va), .ref (z 9)])), (z 2, .inl (k.1 0, 23, .inl (ta_e t))), (z 4, .inl (k.1 0, 66, .inl (ta_e (ta_u (ta_u (ta_u g3 1 ((g3 1) + 1)) 1 0) 0 ((g3 0) + 1)))))] H := hP
                          have hD : va_D A [(z 0, .inr (8, [.ref (z 1), .int (nI ty), .ref (z 2), .ref (z 3), .ref (z 4), .ref (z 5), .int (nI kn), .ref (z 6), .ref (z 7), .ref (z 8), .int (nI no), .int (nI at_), .int (nI so), .int (nI sr), .int (nI va), .ref (z 9)])), (z 2, .inl (k.1 0, 23, .inl (ta_e t))), (z 4, .inl (k.1 0, 66, .inl (ta_e (ta_u (ta_u (ta_u g3 1 ((g3 1) + 1)) 1 0) 0 ((g3 0) + 1)))))] := hD
                          refine lv_iload_n hx hb dX8_goes_216 rfl (lv_at hl 1 rfl) ?_
                          have e : ta_u (ta_u (ta_u g3 1 ((g3 1) + 1)) 1 0) 0 ((g3 0) + 1) = tg_go t g := by rw [ego]; unfold tg_wind; rw [if_pos (by omega), ta_uu]
                          have ekn : nI 4294967295 = nI (tg_kn g) := by unfold tg_kn; rw [epre, ← ha]; first | rw [if_pos (by omega)] | rw [if_neg (by omega)]
                          rw [e] at hP hD
                          exact ret _ () dX8_goes_217 rfl ekn hP hD hS
                      · refine ta_iconst C 4294967295 dX8_goes_168 (by decide) ?_
                        refine lv_goto (tgt := 173) hx hb dX8_goes_169 (by decide) ?_
                        refine ta_iast C hP hD hS 2 rfl (i := 4) (v := 4294967295) (by omega) dX8_goes_173 (fun H locs hP hD hS => ?_)
                        have hP : va_P D vwCl [(z 0, .inr (8, [.ref (z 1), .int (nI ty), .ref (z 2), .ref (z 3), .ref (z 4), .ref (z 5), .int (nI kn), .ref (z 6), .ref (z 7), .ref (z 8), .int (nI no), .int (nI at_), .int (nI so), .int (nI sr), .int (nI va), .ref (z 9)])), (z 2, .inl (k.1 0, 23, .inl (ta_e t))), (z 4, .inl (k.1 0, 66, .inl (ta_e (ta_u (ta_u g2 5 ((g2 5) - 1)) 4 4294967295))))] H := hP
                        have hD : va_D A [(z 0, .inr (8, [.ref (z 1), .int (nI ty), .ref (z 2), .ref (z 3), .ref (z 4), .ref (z 5), .int (nI kn), .ref (z 6), .ref (z 7), .ref (z 8), .int (nI no), .int (nI at_), .int (nI so), .int (nI sr), .int (nI va), .ref (z 9)])), (z 2, .inl (k.1 0, 23, .inl (ta_e t))), (z 4, .inl (k.1 0, 66, .inl (ta_e (ta_u (ta_u g2 5 ((g2 5) - 1)) 4 4294967295))))] := hD
                        obtain ⟨g3, hg3⟩ : ∃ z, z = ta_u (ta_u g2 5 ((g2 5) - 1)) 4 4294967295 := ⟨_, rfl⟩
                        rw [← hg3] at hP hD
                        have edo : tg_do t g1 1 = g3 := by unfold tg_do; rw [hg3, eact, k5, if_pos (by omega)]
                        have ego : tg_go t g = tg_wind t g3 1 := by unfold tg_go; rw [epre, ← ha, if_neg (by omega), edo]
                        have k1 : g3 1 = g1 1 := by rw [← edo]; exact tg_do_k (by omega) e2 (by omega) (by omega) (by omega) (by omega) (by omega)
                        have hP : va_P D vwCl [(z 0, .inr (8, [.ref (z 1), .int (nI ty), .ref (z 2), .ref (z 3), .ref (z 4), .ref (z 5), .int (nI kn), .ref (z 6), .ref (z 7), .ref (z 8), .int (nI no), .int (nI at_), .int (nI so), .int (nI sr), .int (nI va), .ref (z 9)])), (z 2, .inl (k.1 0, 23, .inl (ta_e t))), (z 4, .inl (k.1 0, 66, .inl (ta_e g3)))] H := hP
                        have hD : va_D A [(z 0, .inr (8, [.ref (z 1), .int (nI ty), .ref (z 2), .ref (z 3), .ref (z 4), .ref (z 5), .int (nI kn), .ref (z 6), .ref (z 7), .ref (z 8), .int (nI no), .int (nI at_), .int (nI so), .int (nI sr), .int (nI va), .ref (z 9)])), (z 2, .inl (k.1 0, 23, .inl (ta_e t))), (z 4, .inl (k.1 0, 66, .inl (ta_e g3)))] := hD
                        refine lv_aload_n hx hb dX8_goes_174 rfl (lv_at hl 3 rfl) ?_
                        refine ta_get C hP 0 inlX8 rfl rfl 4 (by decide) tw_128 rfl dX8_goes_175 ?_
                        refine ta_iconst C 1 dX8_goes_178 (by decide) ?_
                        refine lv_dup2_11 hx hb dX8_goes_179 rfl rfl ?_
                        refine ta_iald C hP 2 rfl (i := 1) (by omega) dX8_goes_180 ?_
                        refine ta_iconst C 1 dX8_goes_181 (by decide) ?_
                        refine ta_iadd C (a := g3 1) (b := 1) dX8_goes_182 ?_
                        refine ta_iast C hP hD hS 2 rfl (i := 1) (v := (g3 1) + 1) (by omega) dX8_goes_183 (fun H locs hP hD hS => ?_)
                        have hP : va_P D vwCl [(z 0, .inr (8, [.ref (z 1), .int (nI ty), .ref (z 2), .ref (z 3), .ref (z 4), .ref (z 5), .int (nI kn), .ref (z 6), .ref (z 7), .ref (z 8), .int (nI no), .int (nI at_), .int (nI so), .int (nI sr), .int (nI va), .ref (z 9)])), (z 2, .inl (k.1 0, 23, .inl (ta_e t))), (z 4, .inl (k.1 0, 66, .inl (ta_e (ta_u g3 1 ((g3 1) + 1)))))] H := hP
                        have hD : va_D A [(z 0, .inr (8, [.ref (z 1), .int (nI ty), .ref (z 2), .ref (z 3), .ref (z 4), .ref (z 5), .int (nI kn), .ref (z 6), .ref (z 7), .ref (z 8), .int (nI no), .int (nI at_), .int (nI so), .int (nI sr), .int (nI va), .ref (z 9)])), (z 2, .inl (k.1 0, 23, .inl (ta_e t))), (z 4, .inl (k.1 0, 66, .inl (ta_e (ta_u g3 1 ((g3 1) + 1)))))] := hD
                        refine lv_aload_n hx hb dX8_goes_184 rfl (lv_at hl 3 rfl) ?_
                        refine ta_get C hP 0 inlX8 rfl rfl 4 (by decide) tw_128 rfl dX8_goes_185 ?_
                        refine ta_iconst C 1 dX8_goes_188 (by decide) ?_
                        refine ta_iald C hP 2 rfl (i := 1) (by omega) dX8_goes_189 ?_
                        refine ta_nv (y := (g3 1) + 1) ta_us ?_
                        refine lv_aload_n hx hb dX8_goes_190 rfl (lv_at hl 3 rfl) ?_
                        refine ta_get C hP 0 inlX8 rfl rfl 2 (by decide) tw_126 rfl dX8_goes_191 ?_
                        refine ta_iconst C 2 dX8_goes_194 (by decide) ?_
                        refine ta_iald C hP 1 rfl (i := 2) (by omega) dX8_goes_195 ?_
                        refine ta_cne C (a := (g3 1) + 1) (b := t 2) (tgt := 216) (by omega) (by omega) dX8_goes_196 (by decide) (fun c248 => ?_) (fun c248 => ?_)
                        · refine lv_iload_n hx hb dX8_goes_216 rfl (lv_at hl 1 rfl) ?_
                          have e : ta_u g3 1 ((g3 1) + 1) = tg_go t g := by rw [ego]; unfold tg_wind; rw [if_neg (by omega)]
                          have ekn : nI 4294967295 = nI (tg_kn g) := by unfold tg_kn; rw [epre, ← ha]; first | rw [if_pos (by omega)] | rw [if_neg (by omega)]
                          rw [e] at hP hD
                          exact ret _ () dX8_goes_217 rfl ekn hP hD hS
                        · refine lv_aload_n hx hb dX8_goes_199 rfl (lv_at hl 3 rfl) ?_
                          refine ta_get C hP 0 inlX8 rfl rfl 4 (by decide) tw_128 rfl dX8_goes_200 ?_
                          refine ta_iconst C 1 dX8_goes_203 (by decide) ?_
                          refine ta_iconst C 0 dX8_goes_204 (by decide) ?_
                          refine ta_iast C hP hD hS 2 rfl (i := 1) (v := 0) (by omega) dX8_goes_205 (fun H locs hP hD hS => ?_)
                          have hP : va_P D vwCl [(z 0, .inr (8, [.ref (z 1), .int (nI ty), .ref (z 2), .ref (z 3), .ref (z 4), .ref (z 5), .int (nI kn), .ref (z 6), .ref (z 7), .ref (z 8), .int (nI no), .int (nI at_), .int (nI so), .int (nI sr), .int (nI va), .ref (z 9)])), (z 2, .inl (k.1 0, 23, .inl (ta_e t))), (z 4, .inl (k.1 0, 66, .inl (ta_e (ta_u (ta_u g3 1 ((g3 1) + 1)) 1 0))))] H := hP
                          have hD : va_D A [(z 0, .inr (8, [.ref (z 1), .int (nI ty), .ref (z 2), .ref (z 3), .ref (z 4), .ref (z 5), .int (nI kn), .ref (z 6), .ref (z 7), .ref (z 8), .int (nI no), .int (nI at_), .int (nI so), .int (nI sr), .int (nI va), .ref (z 9)])), (z 2, .inl (k.1 0, 23, .inl (ta_e t))), (z 4, .inl (k.1 0, 66, .inl (ta_e (ta_u (ta_u g3 1 ((g3 1) + 1)) 1 0))))] := hD
                          refine lv_aload_n hx hb dX8_goes_206 rfl (lv_at hl 3 rfl) ?_
                          refine ta_get C hP 0 inlX8 rfl rfl 4 (by decide) tw_128 rfl dX8_goes_207 ?_
                          refine ta_iconst C 0 dX8_goes_210 (by decide) ?_
                          refine lv_dup2_11 hx hb dX8_goes_211 rfl rfl ?_
                          refine ta_iald C hP 2 rfl (i := 0) (by omega) dX8_goes_212 ?_
                          refine ta_nv (y := (ta_u g3 1 ((g3 1) + 1)) 0) (ta_un (by decide)) ?_
                          refine ta_nv (y := g3 0) (ta_un (by decide)) ?_
                          refine ta_iconst C 1 dX8_goes_213 (by decide) ?_
                          refine ta_iadd C (a := g3 0) (b := 1) dX8_goes_214 ?_
                          refine ta_iast C hP hD hS 2 rfl (i := 0) (v := (g3 0) + 1) (by omega) dX8_goes_215 (fun H locs hP hD hS => ?_)
                          have hP : va_P D vwCl [(z 0, .inr (8, [.ref (z 1), .int (nI ty), .ref (z 2), .ref (z 3), .ref (z 4), .ref (z 5), .int (nI kn), .ref (z 6), .ref (z 7), .ref (z 8), .int (nI no), .int (nI at_), .int (nI so), .int (nI sr), .int (nI va), .ref (z 9)])), (z 2, .inl (k.1 0, 23, .inl (ta_e t))), (z 4, .inl (k.1 0, 66, .inl (ta_e (ta_u (ta_u (ta_u g3 1 ((g3 1) + 1)) 1 0) 0 ((g3 0) + 1)))))] H := hP
                          have hD : va_D A [(z 0, .inr (8, [.ref (z 1), .int (nI ty), .ref (z 2), .ref (z 3), .ref (z 4), .ref (z 5), .int (nI kn), .ref (z 6), .ref (z 7), .ref (z 8), .int (nI no), .int (nI at_), .int (nI so), .int (nI sr), .int (nI va), .ref (z 9)])), (z 2, .inl (k.1 0, 23, .inl (ta_e t))), (z 4, .inl (k.1 0, 66, .inl (ta_e (ta_u (ta_u (ta_u g3 1 ((g3 1) + 1)) 1 0) 0 ((g3 0) + 1)))))] := hD
                          refine lv_iload_n hx hb dX8_goes_216 rfl (lv_at hl 1 rfl) ?_
                          have e : ta_u (ta_u (ta_u g3 1 ((g3 1) + 1)) 1 0) 0 ((g3 0) + 1) = tg_go t g := by rw [ego]; unfold tg_wind; rw [if_pos (by omega), ta_uu]
                          have ekn : nI 4294967295 = nI (tg_kn g) := by unfold tg_kn; rw [epre, ← ha]; first | rw [if_pos (by omega)] | rw [if_neg (by omega)]
                          rw [e] at hP hD
                          exact ret _ () dX8_goes_217 rfl ekn hP hD hS
                    · exact absurd c245 (by decide)
                · exact absurd c243 (by decide)
              · exact absurd c242 (by decide)
            · exact absurd c241 (by decide)
      · refine ta_nv (y := 4) h4 ?_
        refine lv_istore_n (lv' := [(3, .int (nI 4)), (2, .int (nI 4294967295)), (1, .int (nI 1)), (0, .ref (z 0))]) hx hb dX8_goes_44 rfl hl (by decide) rfl (fun ls hl => ?_)
        refine lv_iload_n hx hb dX8_goes_45 rfl (lv_at hl 0 rfl) ?_
        refine ta_iconst C 4294967295 dX8_goes_46 (by decide) ?_
        refine lv_icmp_eq (tgt := 174) hx hb dX8_goes_47 (by decide) (fun c249 => ?_) (fun c249 => ?_)
        · exact absurd c249 (by decide)
        · refine lv_iload_n hx hb dX8_goes_50 rfl (lv_at hl 0 rfl) ?_
          refine lv_if_eq (tgt := 59) hx hb dX8_goes_51 (by decide) (fun c250 => ?_) (fun c250 => ?_)
          · exact absurd c250 (by decide)
          · refine lv_iload_n hx hb dX8_goes_54 rfl (lv_at hl 0 rfl) ?_
            refine ta_iconst C 2 dX8_goes_55 (by decide) ?_
            refine lv_icmp_ne (tgt := 69) hx hb dX8_goes_56 (by decide) (fun c251 => ?_) (fun c251 => ?_)
            · refine lv_iload_n hx hb dX8_goes_69 rfl (lv_at hl 0 rfl) ?_
              refine ta_iconst C 2 dX8_goes_70 (by decide) ?_
              refine lv_icmp_ne (tgt := 84) hx hb dX8_goes_71 (by decide) (fun c252 => ?_) (fun c252 => ?_)
              · refine lv_iload_n hx hb dX8_goes_84 rfl (lv_at hl 0 rfl) ?_
                refine ta_iconst C 1 dX8_goes_85 (by decide) ?_
                refine lv_icmp_ne (tgt := 103) hx hb dX8_goes_86 (by decide) (fun c253 => ?_) (fun c253 => ?_)
                · refine lv_iload_n hx hb dX8_goes_103 rfl (lv_at hl 0 rfl) ?_
                  refine ta_iconst C 3 dX8_goes_104 (by decide) ?_
                  refine lv_icmp_ne (tgt := 124) hx hb dX8_goes_105 (by decide) (fun c254 => ?_) (fun c254 => ?_)
                  · refine lv_iload_n hx hb dX8_goes_124 rfl (lv_at hl 0 rfl) ?_
                    refine ta_iconst C 4 dX8_goes_125 (by decide) ?_
                    refine lv_icmp_ne (tgt := 144) hx hb dX8_goes_126 (by decide) (fun c255 => ?_) (fun c255 => ?_)
                    · exact absurd c255 (by decide)
                    · refine lv_aload_n hx hb dX8_goes_129 rfl (lv_at hl 3 rfl) ?_
                      refine ta_get C hP 0 inlX8 rfl rfl 4 (by decide) tw_128 rfl dX8_goes_130 ?_
                      refine ta_bipush C 24 dX8_goes_133 (by decide) ?_
                      refine lv_iload_n hx hb dX8_goes_135 rfl (lv_at hl 2 rfl) ?_
                      refine ta_iadd C (a := 24) (b := 1) dX8_goes_136 ?_
                      refine lv_dup2_11 hx hb dX8_goes_137 rfl rfl ?_
                      refine ta_iald C hP 2 rfl (i := 25) (by omega) dX8_goes_138 ?_
                      refine ta_iconst C 1 dX8_goes_139 (by decide) ?_
                      refine ta_iadd C (a := g1 25) (b := 1) dX8_goes_140 ?_
                      refine ta_iast C hP hD hS 2 rfl (i := 25) (v := (g1 25) + 1) (by omega) dX8_goes_141 (fun H locs hP hD hS => ?_)
                      have hP : va_P D vwCl [(z 0, .inr (8, [.ref (z 1), .int (nI ty), .ref (z 2), .ref (z 3), .ref (z 4), .ref (z 5), .int (nI kn), .ref (z 6), .ref (z 7), .ref (z 8), .int (nI no), .int (nI at_), .int (nI so), .int (nI sr), .int (nI va), .ref (z 9)])), (z 2, .inl (k.1 0, 23, .inl (ta_e t))), (z 4, .inl (k.1 0, 66, .inl (ta_e (ta_u g1 25 ((g1 25) + 1)))))] H := hP
                      have hD : va_D A [(z 0, .inr (8, [.ref (z 1), .int (nI ty), .ref (z 2), .ref (z 3), .ref (z 4), .ref (z 5), .int (nI kn), .ref (z 6), .ref (z 7), .ref (z 8), .int (nI no), .int (nI at_), .int (nI so), .int (nI sr), .int (nI va), .ref (z 9)])), (z 2, .inl (k.1 0, 23, .inl (ta_e t))), (z 4, .inl (k.1 0, 66, .inl (ta_e (ta_u g1 25 ((g1 25) + 1)))))] := hD
                      refine lv_iload_n hx hb dX8_goes_142 rfl (lv_at hl 2 rfl) ?_
                      refine lv_istore_n (lv' := [(2, .int (nI 1)), (3, .int (nI 4)), (1, .int (nI 1)), (0, .ref (z 0))]) hx hb dX8_goes_143 rfl hl (by decide) rfl (fun ls hl => ?_)
                      obtain ⟨g2, hg2⟩ : ∃ z, z = ta_u g1 25 ((g1 25) + 1) := ⟨_, rfl⟩
                      rw [← hg2] at hP hD
                      have eact : tg_act t g1 1 = g2 := by rw [hg2]; unfold tg_act; rw [if_neg (by omega), if_neg (by omega), if_neg (by omega), if_neg (by omega)]
                      have k5 : g2 5 = g1 5 := by rw [← eact]; exact tg_act_k (by omega) e2 (by omega) (by omega) (by omega)
                      have hP : va_P D vwCl [(z 0, .inr (8, [.ref (z 1), .int (nI ty), .ref (z 2), .ref (z 3), .ref (z 4), .ref (z 5), .int (nI kn), .ref (z 6), .ref (z 7), .ref (z 8), .int (nI no), .int (nI at_), .int (nI so), .int (nI sr), .int (nI va), .ref (z 9)])), (z 2, .inl (k.1 0, 23, .inl (ta_e t))), (z 4, .inl (k.1 0, 66, .inl (ta_e g2)))] H := hP
                      have hD : va_D A [(z 0, .inr (8, [.ref (z 1), .int (nI ty), .ref (z 2), .ref (z 3), .ref (z 4), .ref (z 5), .int (nI kn), .ref (z 6), .ref (z 7), .ref (z 8), .int (nI no), .int (nI at_), .int (nI so), .int (nI sr), .int (nI va), .ref (z 9)])), (z 2, .inl (k.1 0, 23, .inl (ta_e t))), (z 4, .inl (k.1 0, 66, .inl (ta_e g2)))] := hD
                      refine lv_aload_n hx hb dX8_goes_144 rfl (lv_at hl 3 rfl) ?_
                      refine ta_get C hP 0 inlX8 rfl rfl 4 (by decide) tw_128 rfl dX8_goes_145 ?_
                      refine ta_iconst C 5 dX8_goes_148 (by decide) ?_
                      refine lv_dup2_11 hx hb dX8_goes_149 rfl rfl ?_
                      refine ta_iald C hP 2 rfl (i := 5) (by omega) dX8_goes_150 ?_
                      refine ta_iconst C 1 dX8_goes_151 (by decide) ?_
                      refine ta_isub C (a := g2 5) (b := 1) (by omega) dX8_goes_152 ?_
                      refine ta_iast C hP hD hS 2 rfl (i := 5) (v := (g2 5) - 1) (by omega) dX8_goes_153 (fun H locs hP hD hS => ?_)
                      have hP : va_P D vwCl [(z 0, .inr (8, [.ref (z 1), .int (nI ty), .ref (z 2), .ref (z 3), .ref (z 4), .ref (z 5), .int (nI kn), .ref (z 6), .ref (z 7), .ref (z 8), .int (nI no), .int (nI at_), .int (nI so), .int (nI sr), .int (nI va), .ref (z 9)])), (z 2, .inl (k.1 0, 23, .inl (ta_e t))), (z 4, .inl (k.1 0, 66, .inl (ta_e (ta_u g2 5 ((g2 5) - 1)))))] H := hP
                      have hD : va_D A [(z 0, .inr (8, [.ref (z 1), .int (nI ty), .ref (z 2), .ref (z 3), .ref (z 4), .ref (z 5), .int (nI kn), .ref (z 6), .ref (z 7), .ref (z 8), .int (nI no), .int (nI at_), .int (nI so), .int (nI sr), .int (nI va), .ref (z 9)])), (z 2, .inl (k.1 0, 23, .inl (ta_e t))), (z 4, .inl (k.1 0, 66, .inl (ta_e (ta_u g2 5 ((g2 5) - 1)))))] := hD
                      refine lv_aload_n hx hb dX8_goes_154 rfl (lv_at hl 3 rfl) ?_
                      refine ta_get C hP 0 inlX8 rfl rfl 4 (by decide) tw_128 rfl dX8_goes_155 ?_
                      refine ta_iconst C 4 dX8_goes_158 (by decide) ?_
                      refine lv_aload_n hx hb dX8_goes_159 rfl (lv_at hl 3 rfl) ?_
                      refine ta_get C hP 0 inlX8 rfl rfl 4 (by decide) tw_128 rfl dX8_goes_160 ?_
                      refine ta_iconst C 5 dX8_goes_163 (by decide) ?_
                      refine ta_iald C hP 2 rfl (i := 5) (by omega) dX8_goes_164 ?_
                      refine ta_nv (y := (g2 5) - 1) ta_us ?_
                      refine ta_ine C (a := (g2 5) - 1) (tgt := 172) (by omega) dX8_goes_165 (by decide) (fun c256 => ?_) (fun c256 => ?_)
                      · refine lv_iload_n hx hb dX8_goes_172 rfl (lv_at hl 1 rfl) ?_
                        refine ta_iast C hP hD hS 2 rfl (i := 4) (v := 4) (by omega) dX8_goes_173 (fun H locs hP hD hS => ?_)
                        have hP : va_P D vwCl [(z 0, .inr (8, [.ref (z 1), .int (nI ty), .ref (z 2), .ref (z 3), .ref (z 4), .ref (z 5), .int (nI kn), .ref (z 6), .ref (z 7), .ref (z 8), .int (nI no), .int (nI at_), .int (nI so), .int (nI sr), .int (nI va), .ref (z 9)])), (z 2, .inl (k.1 0, 23, .inl (ta_e t))), (z 4, .inl (k.1 0, 66, .inl (ta_e (ta_u (ta_u g2 5 ((g2 5) - 1)) 4 4))))] H := hP
                        have hD : va_D A [(z 0, .inr (8, [.ref (z 1), .int (nI ty), .ref (z 2), .ref (z 3), .ref (z 4), .ref (z 5), .int (nI kn), .ref (z 6), .ref (z 7), .ref (z 8), .int (nI no), .int (nI at_), .int (nI so), .int (nI sr), .int (nI va), .ref (z 9)])), (z 2, .inl (k.1 0, 23, .inl (ta_e t))), (z 4, .inl (k.1 0, 66, .inl (ta_e (ta_u (ta_u g2 5 ((g2 5) - 1)) 4 4))))] := hD
                        obtain ⟨g3, hg3⟩ : ∃ z, z = ta_u (ta_u g2 5 ((g2 5) - 1)) 4 4 := ⟨_, rfl⟩
                        rw [← hg3] at hP hD
                        have edo : tg_do t g1 1 = g3 := by unfold tg_do; rw [hg3, eact, k5, if_neg (by omega), h4]
                        have ego : tg_go t g = tg_wind t g3 1 := by unfold tg_go; rw [epre, ← ha, if_neg (by omega), edo]
                        have k1 : g3 1 = g1 1 := by rw [← edo]; exact tg_do_k (by omega) e2 (by omega) (by omega) (by omega) (by omega) (by omega)
                        have hP : va_P D vwCl [(z 0, .inr (8, [.ref (z 1), .int (nI ty), .ref (z 2), .ref (z 3), .ref (z 4), .ref (z 5), .int (nI kn), .ref (z 6), .ref (z 7), .ref (z 8), .int (nI no), .int (nI at_), .int (nI so), .int (nI sr), .int (nI va), .ref (z 9)])), (z 2, .inl (k.1 0, 23, .inl (ta_e t))), (z 4, .inl (k.1 0, 66, .inl (ta_e g3)))] H := hP
                        have hD : va_D A [(z 0, .inr (8, [.ref (z 1), .int (nI ty), .ref (z 2), .ref (z 3), .ref (z 4), .ref (z 5), .int (nI kn), .ref (z 6), .ref (z 7), .ref (z 8), .int (nI no), .int (nI at_), .int (nI so), .int (nI sr), .int (nI va), .ref (z 9)])), (z 2, .inl (k.1 0, 23, .inl (ta_e t))), (z 4, .inl (k.1 0, 66, .inl (ta_e g3)))] := hD
                        refine lv_aload_n hx hb dX8_goes_174 rfl (lv_at hl 3 rfl) ?_
                        refine ta_get C hP 0 inlX8 rfl rfl 4 (by decide) tw_128 rfl dX8_goes_175 ?_
                        refine ta_iconst C 1 dX8_goes_178 (by decide) ?_
                        refine lv_dup2_11 hx hb dX8_goes_179 rfl rfl ?_
                        refine ta_iald C hP 2 rfl (i := 1) (by omega) dX8_goes_180 ?_
                        refine ta_iconst C 1 dX8_goes_181 (by decide) ?_
                        refine ta_iadd C (a := g3 1) (b := 1) dX8_goes_182 ?_
                        refine ta_iast C hP hD hS 2 rfl (i := 1) (v := (g3 1) + 1) (by omega) dX8_goes_183 (fun H locs hP hD hS => ?_)
                        have hP : va_P D vwCl [(z 0, .inr (8, [.ref (z 1), .int (nI ty), .ref (z 2), .ref (z 3), .ref (z 4), .ref (z 5), .int (nI kn), .ref (z 6), .ref (z 7), .ref (z 8), .int (nI no), .int (nI at_), .int (nI so), .int (nI sr), .int (nI va), .ref (z 9)])), (z 2, .inl (k.1 0, 23, .inl (ta_e t))), (z 4, .inl (k.1 0, 66, .inl (ta_e (ta_u g3 1 ((g3 1) + 1)))))] H := hP
                        have hD : va_D A [(z 0, .inr (8, [.ref (z 1), .int (nI ty), .ref (z 2), .ref (z 3), .ref (z 4), .ref (z 5), .int (nI kn), .ref (z 6), .ref (z 7), .ref (z 8), .int (nI no), .int (nI at_), .int (nI so), .int (nI sr), .int (nI va), .ref (z 9)])), (z 2, .inl (k.1 0, 23, .inl (ta_e t))), (z 4, .inl (k.1 0, 66, .inl (ta_e (ta_u g3 1 ((g3 1) + 1)))))] := hD
                        refine lv_aload_n hx hb dX8_goes_184 rfl (lv_at hl 3 rfl) ?_
                        refine ta_get C hP 0 inlX8 rfl rfl 4 (by decide) tw_128 rfl dX8_goes_185 ?_
                        refine ta_iconst C 1 dX8_goes_188 (by decide) ?_
                        refine ta_iald C hP 2 rfl (i := 1) (by omega) dX8_goes_189 ?_
                        refine ta_nv (y := (g3 1) + 1) ta_us ?_
                        refine lv_aload_n hx hb dX8_goes_190 rfl (lv_at hl 3 rfl) ?_
                        refine ta_get C hP 0 inlX8 rfl rfl 2 (by decide) tw_126 rfl dX8_goes_191 ?_
                        refine ta_iconst C 2 dX8_goes_194 (by decide) ?_
                        refine ta_iald C hP 1 rfl (i := 2) (by omega) dX8_goes_195 ?_
                        refine ta_cne C (a := (g3 1) + 1) (b := t 2) (tgt := 216) (by omega) (by omega) dX8_goes_196 (by decide) (fun c257 => ?_) (fun c257 => ?_)
                        · refine lv_iload_n hx hb dX8_goes_216 rfl (lv_at hl 0 rfl) ?_
                          have e : ta_u g3 1 ((g3 1) + 1) = tg_go t g := by rw [ego]; unfold tg_wind; rw [if_neg (by omega)]
                          have ekn : nI 1 = nI (tg_kn g) := by unfold tg_kn; rw [epre, ← ha]; first | rw [if_pos (by omega)] | rw [if_neg (by omega)]
                          rw [e] at hP hD
                          exact ret _ () dX8_goes_217 rfl ekn hP hD hS
                        · refine lv_aload_n hx hb dX8_goes_199 rfl (lv_at hl 3 rfl) ?_
                          refine ta_get C hP 0 inlX8 rfl rfl 4 (by decide) tw_128 rfl dX8_goes_200 ?_
                          refine ta_iconst C 1 dX8_goes_203 (by decide) ?_
                          refine ta_iconst C 0 dX8_goes_204 (by decide) ?_
                          refine ta_iast C hP hD hS 2 rfl (i := 1) (v := 0) (by omega) dX8_goes_205 (fun H locs hP hD hS => ?_)
                          have hP : va_P D vwCl [(z 0, .inr (8, [.ref (z 1), .int (nI ty), .ref (z 2), .ref (z 3), .ref (z 4), .ref (z 5), .int (nI kn), .ref (z 6), .ref (z 7), .ref (z 8), .int (nI no), .int (nI at_), .int (nI so), .int (nI sr), .int (nI va), .ref (z 9)])), (z 2, .inl (k.1 0, 23, .inl (ta_e t))), (z 4, .inl (k.1 0, 66, .inl (ta_e (ta_u (ta_u g3 1 ((g3 1) + 1)) 1 0))))] H := hP
                          have hD : va_D A [(z 0, .inr (8, [.ref (z 1), .int (nI ty), .ref (z 2), .ref (z 3), .ref (z 4), .ref (z 5), .int (nI kn), .ref (z 6), .ref (z 7), .ref (z 8), .int (nI no), .int (nI at_), .int (nI so), .int (nI sr), .int (nI va), .ref (z 9)])), (z 2, .inl (k.1 0, 23, .inl (ta_e t))), (z 4, .inl (k.1 0, 66, .inl (ta_e (ta_u (ta_u g3 1 ((g3 1) + 1)) 1 0))))] := hD
                          refine lv_aload_n hx hb dX8_goes_206 rfl (lv_at hl 3 rfl) ?_
                          refine ta_get C hP 0 inlX8 rfl rfl 4 (by decide) tw_128 rfl dX8_goes_207 ?_
                          refine ta_iconst C 0 dX8_goes_210 (by decide) ?_
                          refine lv_dup2_11 hx hb dX8_goes_211 rfl rfl ?_
                          refine ta_iald C hP 2 rfl (i := 0) (by omega) dX8_goes_212 ?_
                          refine ta_nv (y := (ta_u g3 1 ((g3 1) + 1)) 0) (ta_un (by decide)) ?_
                          refine ta_nv (y := g3 0) (ta_un (by decide)) ?_
                          refine ta_iconst C 1 dX8_goes_213 (by decide) ?_
                          refine ta_iadd C (a := g3 0) (b := 1) dX8_goes_214 ?_
                          refine ta_iast C hP hD hS 2 rfl (i := 0) (v := (g3 0) + 1) (by omega) dX8_goes_215 (fun H locs hP hD hS => ?_)
                          have hP : va_P D vwCl [(z 0, .inr (8, [.ref (z 1), .int (nI ty), .ref (z 2), .ref (z 3), .ref (z 4), .ref (z 5), .int (nI kn), .ref (z 6), .ref (z 7), .ref (z 8), .int (nI no), .int (nI at_), .int (nI so), .int (nI sr), .int (nI va), .ref (z 9)])), (z 2, .inl (k.1 0, 23, .inl (ta_e t))), (z 4, .inl (k.1 0, 66, .inl (ta_e (ta_u (ta_u (ta_u g3 1 ((g3 1) + 1)) 1 0) 0 ((g3 0) + 1)))))] H := hP
                          have hD : va_D A [(z 0, .inr (8, [.ref (z 1), .int (nI ty), .ref (z 2), .ref (z 3), .ref (z 4), .ref (z 5), .int (nI kn), .ref (z 6), .ref (z 7), .ref (z 8), .int (nI no), .int (nI at_), .int (nI so), .int (nI sr), .int (nI va), .ref (z 9)])), (z 2, .inl (k.1 0, 23, .inl (ta_e t))), (z 4, .inl (k.1 0, 66, .inl (ta_e (ta_u (ta_u (ta_u g3 1 ((g3 1) + 1)) 1 0) 0 ((g3 0) + 1)))))] := hD
                          refine lv_iload_n hx hb dX8_goes_216 rfl (lv_at hl 0 rfl) ?_
                          have e : ta_u (ta_u (ta_u g3 1 ((g3 1) + 1)) 1 0) 0 ((g3 0) + 1) = tg_go t g := by rw [ego]; unfold tg_wind; rw [if_pos (by omega), ta_uu]
                          have ekn : nI 1 = nI (tg_kn g) := by unfold tg_kn; rw [epre, ← ha]; first | rw [if_pos (by omega)] | rw [if_neg (by omega)]
                          rw [e] at hP hD
                          exact ret _ () dX8_goes_217 rfl ekn hP hD hS
                      · refine ta_iconst C 4294967295 dX8_goes_168 (by decide) ?_
                        refine lv_goto (tgt := 173) hx hb dX8_goes_169 (by decide) ?_
                        refine ta_iast C hP hD hS 2 rfl (i := 4) (v := 4294967295) (by omega) dX8_goes_173 (fun H locs hP hD hS => ?_)
                        have hP : va_P D vwCl [(z 0, .inr (8, [.ref (z 1), .int (nI ty), .ref (z 2), .ref (z 3), .ref (z 4), .ref (z 5), .int (nI kn), .ref (z 6), .ref (z 7), .ref (z 8), .int (nI no), .int (nI at_), .int (nI so), .int (nI sr), .int (nI va), .ref (z 9)])), (z 2, .inl (k.1 0, 23, .inl (ta_e t))), (z 4, .inl (k.1 0, 66, .inl (ta_e (ta_u (ta_u g2 5 ((g2 5) - 1)) 4 4294967295))))] H := hP
                        have hD : va_D A [(z 0, .inr (8, [.ref (z 1), .int (nI ty), .ref (z 2), .ref (z 3), .ref (z 4), .ref (z 5), .int (nI kn), .ref (z 6), .ref (z 7), .ref (z 8), .int (nI no), .int (nI at_), .int (nI so), .int (nI sr), .int (nI va), .ref (z 9)])), (z 2, .inl (k.1 0, 23, .inl (ta_e t))), (z 4, .inl (k.1 0, 66, .inl (ta_e (ta_u (ta_u g2 5 ((g2 5) - 1)) 4 4294967295))))] := hD
                        obtain ⟨g3, hg3⟩ : ∃ z, z = ta_u (ta_u g2 5 ((g2 5) - 1)) 4 4294967295 := ⟨_, rfl⟩
                        rw [← hg3] at hP hD
                        have edo : tg_do t g1 1 = g3 := by unfold tg_do; rw [hg3, eact, k5, if_pos (by omega)]
                        have ego : tg_go t g = tg_wind t g3 1 := by unfold tg_go; rw [epre, ← ha, if_neg (by omega), edo]
                        have k1 : g3 1 = g1 1 := by rw [← edo]; exact tg_do_k (by omega) e2 (by omega) (by omega) (by omega) (by omega) (by omega)
                        have hP : va_P D vwCl [(z 0, .inr (8, [.ref (z 1), .int (nI ty), .ref (z 2), .ref (z 3), .ref (z 4), .ref (z 5), .int (nI kn), .ref (z 6), .ref (z 7), .ref (z 8), .int (nI no), .int (nI at_), .int (nI so), .int (nI sr), .int (nI va), .ref (z 9)])), (z 2, .inl (k.1 0, 23, .inl (ta_e t))), (z 4, .inl (k.1 0, 66, .inl (ta_e g3)))] H := hP
                        have hD : va_D A [(z 0, .inr (8, [.ref (z 1), .int (nI ty), .ref (z 2), .ref (z 3), .ref (z 4), .ref (z 5), .int (nI kn), .ref (z 6), .ref (z 7), .ref (z 8), .int (nI no), .int (nI at_), .int (nI so), .int (nI sr), .int (nI va), .ref (z 9)])), (z 2, .inl (k.1 0, 23, .inl (ta_e t))), (z 4, .inl (k.1 0, 66, .inl (ta_e g3)))] := hD
                        refine lv_aload_n hx hb dX8_goes_174 rfl (lv_at hl 3 rfl) ?_
                        refine ta_get C hP 0 inlX8 rfl rfl 4 (by decide) tw_128 rfl dX8_goes_175 ?_
                        refine ta_iconst C 1 dX8_goes_178 (by decide) ?_
                        refine lv_dup2_11 hx hb dX8_goes_179 rfl rfl ?_
                        refine ta_iald C hP 2 rfl (i := 1) (by omega) dX8_goes_180 ?_
                        refine ta_iconst C 1 dX8_goes_181 (by decide) ?_
                        refine ta_iadd C (a := g3 1) (b := 1) dX8_goes_182 ?_
                        refine ta_iast C hP hD hS 2 rfl (i := 1) (v := (g3 1) + 1) (by omega) dX8_goes_183 (fun H locs hP hD hS => ?_)
                        have hP : va_P D vwCl [(z 0, .inr (8, [.ref (z 1), .int (nI ty), .ref (z 2), .ref (z 3), .ref (z 4), .ref (z 5), .int (nI kn), .ref (z 6), .ref (z 7), .ref (z 8), .int (nI no), .int (nI at_), .int (nI so), .int (nI sr), .int (nI va), .ref (z 9)])), (z 2, .inl (k.1 0, 23, .inl (ta_e t))), (z 4, .inl (k.1 0, 66, .inl (ta_e (ta_u g3 1 ((g3 1) + 1)))))] H := hP
                        have hD : va_D A [(z 0, .inr (8, [.ref (z 1), .int (nI ty), .ref (z 2), .ref (z 3), .ref (z 4), .ref (z 5), .int (nI kn), .ref (z 6), .ref (z 7), .ref (z 8), .int (nI no), .int (nI at_), .int (nI so), .int (nI sr), .int (nI va), .ref (z 9)])), (z 2, .inl (k.1 0, 23, .inl (ta_e t))), (z 4, .inl (k.1 0, 66, .inl (ta_e (ta_u g3 1 ((g3 1) + 1)))))] := hD
                        refine lv_aload_n hx hb dX8_goes_184 rfl (lv_at hl 3 rfl) ?_
                        refine ta_get C hP 0 inlX8 rfl rfl 4 (by decide) tw_128 rfl dX8_goes_185 ?_
                        refine ta_iconst C 1 dX8_goes_188 (by decide) ?_
                        refine ta_iald C hP 2 rfl (i := 1) (by omega) dX8_goes_189 ?_
                        refine ta_nv (y := (g3 1) + 1) ta_us ?_
                        refine lv_aload_n hx hb dX8_goes_190 rfl (lv_at hl 3 rfl) ?_
                        refine ta_get C hP 0 inlX8 rfl rfl 2 (by decide) tw_126 rfl dX8_goes_191 ?_
                        refine ta_iconst C 2 dX8_goes_194 (by decide) ?_
                        refine ta_iald C hP 1 rfl (i := 2) (by omega) dX8_goes_195 ?_
                        refine ta_cne C (a := (g3 1) + 1) (b := t 2) (tgt := 216) (by omega) (by omega) dX8_goes_196 (by decide) (fun c258 => ?_) (fun c258 => ?_)
                        · refine lv_iload_n hx hb dX8_goes_216 rfl (lv_at hl 0 rfl) ?_
                          have e : ta_u g3 1 ((g3 1) + 1) = tg_go t g := by rw [ego]; unfold tg_wind; rw [if_neg (by omega)]
                          have ekn : nI 1 = nI (tg_kn g) := by unfold tg_kn; rw [epre, ← ha]; first | rw [if_pos (by omega)] | rw [if_neg (by omega)]
                          rw [e] at hP hD
                          exact ret _ () dX8_goes_217 rfl ekn hP hD hS
                        · refine lv_aload_n hx hb dX8_goes_199 rfl (lv_at hl 3 rfl) ?_
                          refine ta_get C hP 0 inlX8 rfl rfl 4 (by decide) tw_128 rfl dX8_goes_200 ?_
                          refine ta_iconst C 1 dX8_goes_203 (by decide) ?_
                          refine ta_iconst C 0 dX8_goes_204 (by decide) ?_
                          refine ta_iast C hP hD hS 2 rfl (i := 1) (v := 0) (by omega) dX8_goes_205 (fun H locs hP hD hS => ?_)
                          have hP : va_P D vwCl [(z 0, .inr (8, [.ref (z 1), .int (nI ty), .ref (z 2), .ref (z 3), .ref (z 4), .ref (z 5), .int (nI kn), .ref (z 6), .ref (z 7), .ref (z 8), .int (nI no), .int (nI at_), .int (nI so), .int (nI sr), .int (nI va), .ref (z 9)])), (z 2, .inl (k.1 0, 23, .inl (ta_e t))), (z 4, .inl (k.1 0, 66, .inl (ta_e (ta_u (ta_u g3 1 ((g3 1) + 1)) 1 0))))] H := hP
                          have hD : va_D A [(z 0, .inr (8, [.ref (z 1), .int (nI ty), .ref (z 2), .ref (z 3), .ref (z 4), .ref (z 5), .int (nI kn), .ref (z 6), .ref (z 7), .ref (z 8), .int (nI no), .int (nI at_), .int (nI so), .int (nI sr), .int (nI va), .ref (z 9)])), (z 2, .inl (k.1 0, 23, .inl (ta_e t))), (z 4, .inl (k.1 0, 66, .inl (ta_e (ta_u (ta_u g3 1 ((g3 1) + 1)) 1 0))))] := hD
                          refine lv_aload_n hx hb dX8_goes_206 rfl (lv_at hl 3 rfl) ?_
                          refine ta_get C hP 0 inlX8 rfl rfl 4 (by decide) tw_128 rfl dX8_goes_207 ?_
                          refine ta_iconst C 0 dX8_goes_210 (by decide) ?_
                          refine lv_dup2_11 hx hb dX8_goes_211 rfl rfl ?_
                          refine ta_iald C hP 2 rfl (i := 0) (by omega) dX8_goes_212 ?_
                          refine ta_nv (y := (ta_u g3 1 ((g3 1) + 1)) 0) (ta_un (by decide)) ?_
                          refine ta_nv (y := g3 0) (ta_un (by decide)) ?_
                          refine ta_iconst C 1 dX8_goes_213 (by decide) ?_
                          refine ta_iadd C (a := g3 0) (b := 1) dX8_goes_214 ?_
                          refine ta_iast C hP hD hS 2 rfl (i := 0) (v := (g3 0) + 1) (by omega) dX8_goes_215 (fun H locs hP hD hS => ?_)
                          have hP : va_P D vwCl [(z 0, .inr (8, [.ref (z 1), .int (nI ty), .ref (z 2), .ref (z 3), .ref (z 4), .ref (z 5), .int (nI kn), .ref (z 6), .ref (z 7), .ref (z 8), .int (nI no), .int (nI at_), .int (nI so), .int (nI sr), .int (nI va), .ref (z 9)])), (z 2, .inl (k.1 0, 23, .inl (ta_e t))), (z 4, .inl (k.1 0, 66, .inl (ta_e (ta_u (ta_u (ta_u g3 1 ((g3 1) + 1)) 1 0) 0 ((g3 0) + 1)))))] H := hP
                          have hD : va_D A [(z 0, .inr (8, [.ref (z 1), .int (nI ty), .ref (z 2), .ref (z 3), .ref (z 4), .ref (z 5), .int (nI kn), .ref (z 6), .ref (z 7), .ref (z 8), .int (nI no), .int (nI at_), .int (nI so), .int (nI sr), .int (nI va), .ref (z 9)])), (z 2, .inl (k.1 0, 23, .inl (ta_e t))), (z 4, .inl (k.1 0, 66, .inl (ta_e (ta_u (ta_u (ta_u g3 1 ((g3 1) + 1)) 1 0) 0 ((g3 0) + 1)))))] := hD
                          refine lv_iload_n hx hb dX8_goes_216 rfl (lv_at hl 0 rfl) ?_
                          have e : ta_u (ta_u (ta_u g3 1 ((g3 1) + 1)) 1 0) 0 ((g3 0) + 1) = tg_go t g := by rw [ego]; unfold tg_wind; rw [if_pos (by omega), ta_uu]
                          have ekn : nI 1 = nI (tg_kn g) := by unfold tg_kn; rw [epre, ← ha]; first | rw [if_pos (by omega)] | rw [if_neg (by omega)]
                          rw [e] at hP hD
                          exact ret _ () dX8_goes_217 rfl ekn hP hD hS
                  · exact absurd c254 (by decide)
                · exact absurd c253 (by decide)
              · exact absurd c252 (by decide)
            · exact absurd c251 (by decide)
    · refine lv_aload_n hx hb dX8_goes_21 rfl (lv_at hl 2 rfl) ?_
      refine ta_get C hP 0 inlX8 rfl rfl 4 (by decide) tw_128 rfl dX8_goes_22 ?_
      refine ta_bipush C 6 dX8_goes_25 (by decide) ?_
      refine lv_iload_n hx hb dX8_goes_27 rfl (lv_at hl 1 rfl) ?_
      refine ta_iadd C (a := 6) (b := 1) dX8_goes_28 ?_
      refine ta_iald C hP 2 rfl (i := 7) (by omega) dX8_goes_29 ?_
      refine ta_ile C (a := g 7) (tgt := 38) (by omega) dX8_goes_30 (by decide) (fun c259 => ?_) (fun c259 => ?_)
      · obtain ⟨g1, hg1⟩ : ∃ z, z = g := ⟨_, rfl⟩
        have epre : tg_pre g = g1 := by rw [hg1]; unfold tg_pre; rw [← ha]; exact if_neg (fun h => by have h7 : 0 < g 7 := h.2; omega)
        have hok1 : tg_ok t g1 := by rw [hg1]; exact hok
        have g10 : g1 0 = g 0 := by rw [hg1]
        rw [← hg1] at hP hD
        have hP : va_P D vwCl [(z 0, .inr (8, [.ref (z 1), .int (nI ty), .ref (z 2), .ref (z 3), .ref (z 4), .ref (z 5), .int (nI kn), .ref (z 6), .ref (z 7), .ref (z 8), .int (nI no), .int (nI at_), .int (nI so), .int (nI sr), .int (nI va), .ref (z 9)])), (z 2, .inl (k.1 0, 23, .inl (ta_e t))), (z 4, .inl (k.1 0, 66, .inl (ta_e g1)))] H := hP
        have hD : va_D A [(z 0, .inr (8, [.ref (z 1), .int (nI ty), .ref (z 2), .ref (z 3), .ref (z 4), .ref (z 5), .int (nI kn), .ref (z 6), .ref (z 7), .ref (z 8), .int (nI no), .int (nI at_), .int (nI so), .int (nI sr), .int (nI va), .ref (z 9)])), (z 2, .inl (k.1 0, 23, .inl (ta_e t))), (z 4, .inl (k.1 0, 66, .inl (ta_e g1)))] := hD
        obtain ⟨-, e1, e2, e3, e4, -⟩ := id hok1
        refine lv_aload_n hx hb dX8_goes_38 rfl (lv_at hl 2 rfl) ?_
        refine ta_get C hP 0 inlX8 rfl rfl 4 (by decide) tw_128 rfl dX8_goes_39 ?_
        refine ta_iconst C 4 dX8_goes_42 (by decide) ?_
        refine ta_iald C hP 2 rfl (i := 4) (by omega) dX8_goes_43 ?_
        rcases (show g1 4 = 4294967295 ∨ g1 4 = 0 ∨ g1 4 = 1 ∨ g1 4 = 2 ∨ g1 4 = 3 ∨ g1 4 = 4 by omega) with h4 | h4 | h4 | h4 | h4 | h4
        · refine ta_nv (y := 4294967295) h4 ?_
          refine lv_istore_n (lv' := [(3, .int (nI 4294967295)), (2, .int (nI 4294967295)), (1, .int (nI 1)), (0, .ref (z 0))]) hx hb dX8_goes_44 rfl hl (by decide) rfl (fun ls hl => ?_)
          refine lv_iload_n hx hb dX8_goes_45 rfl (lv_at hl 0 rfl) ?_
          refine ta_iconst C 4294967295 dX8_goes_46 (by decide) ?_
          refine lv_icmp_eq (tgt := 174) hx hb dX8_goes_47 (by decide) (fun c260 => ?_) (fun c260 => ?_)
          · obtain ⟨g3, hg3⟩ : ∃ z, z = g1 := ⟨_, rfl⟩
            rw [← hg3] at hP hD
            have ego : tg_go t g = tg_wind t g3 1 := by unfold tg_go; rw [epre, if_pos h4, hg3]
            have k1 : g3 1 = g1 1 := by rw [hg3]
            have hP : va_P D vwCl [(z 0, .inr (8, [.ref (z 1), .int (nI ty), .ref (z 2), .ref (z 3), .ref (z 4), .ref (z 5), .int (nI kn), .ref (z 6), .ref (z 7), .ref (z 8), .int (nI no), .int (nI at_), .int (nI so), .int (nI sr), .int (nI va), .ref (z 9)])), (z 2, .inl (k.1 0, 23, .inl (ta_e t))), (z 4, .inl (k.1 0, 66, .inl (ta_e g3)))] H := hP
            have hD : va_D A [(z 0, .inr (8, [.ref (z 1), .int (nI ty), .ref (z 2), .ref (z 3), .ref (z 4), .ref (z 5), .int (nI kn), .ref (z 6), .ref (z 7), .ref (z 8), .int (nI no), .int (nI at_), .int (nI so), .int (nI sr), .int (nI va), .ref (z 9)])), (z 2, .inl (k.1 0, 23, .inl (ta_e t))), (z 4, .inl (k.1 0, 66, .inl (ta_e g3)))] := hD
            refine lv_aload_n hx hb dX8_goes_174 rfl (lv_at hl 3 rfl) ?_
            refine ta_get C hP 0 inlX8 rfl rfl 4 (by decide) tw_128 rfl dX8_goes_175 ?_
            refine ta_iconst C 1 dX8_goes_178 (by decide) ?_
            refine lv_dup2_11 hx hb dX8_goes_179 rfl rfl ?_
            refine ta_iald C hP 2 rfl (i := 1) (by omega) dX8_goes_180 ?_
            refine ta_iconst C 1 dX8_goes_181 (by decide) ?_
            refine ta_iadd C (a := g3 1) (b := 1) dX8_goes_182 ?_
            refine ta_iast C hP hD hS 2 rfl (i := 1) (v := (g3 1) + 1) (by omega) dX8_goes_183 (fun H locs hP hD hS => ?_)
            have hP : va_P D vwCl [(z 0, .inr (8, [.ref (z 1), .int (nI ty), .ref (z 2), .ref (z 3), .ref (z 4), .ref (z 5), .int (nI kn), .ref (z 6), .ref (z 7), .ref (z 8), .int (nI no), .int (nI at_), .int (nI so), .int (nI sr), .int (nI va), .ref (z 9)])), (z 2, .inl (k.1 0, 23, .inl (ta_e t))), (z 4, .inl (k.1 0, 66, .inl (ta_e (ta_u g3 1 ((g3 1) + 1)))))] H := hP
            have hD : va_D A [(z 0, .inr (8, [.ref (z 1), .int (nI ty), .ref (z 2), .ref (z 3), .ref (z 4), .ref (z 5), .int (nI kn), .ref (z 6), .ref (z 7), .ref (z 8), .int (nI no), .int (nI at_), .int (nI so), .int (nI sr), .int (nI va), .ref (z 9)])), (z 2, .inl (k.1 0, 23, .inl (ta_e t))), (z 4, .inl (k.1 0, 66, .inl (ta_e (ta_u g3 1 ((g3 1) + 1)))))] := hD
            refine lv_aload_n hx hb dX8_goes_184 rfl (lv_at hl 3 rfl) ?_
            refine ta_get C hP 0 inlX8 rfl rfl 4 (by decide) tw_128 rfl dX8_goes_185 ?_
            refine ta_iconst C 1 dX8_goes_188 (by decide) ?_
            refine ta_iald C hP 2 rfl (i := 1) (by omega) dX8_goes_189 ?_
            refine ta_nv (y := (g3 1) + 1) ta_us ?_
            refine lv_aload_n hx hb dX8_goes_190 rfl (lv_at hl 3 rfl) ?_
            refine ta_get C hP 0 inlX8 rfl rfl 2 (by decide) tw_126 rfl dX8_goes_191 ?_
            refine ta_iconst C 2 dX8_goes_194 (by decide) ?_
            refine ta_iald C hP 1 rfl (i := 2) (by omega) dX8_goes_195 ?_
            refine ta_cne C (a := (g3 1) + 1) (b := t 2) (tgt := 216) (by omega) (by omega) dX8_goes_196 (by decide) (fun c261 => ?_) (fun c261 => ?_)
            · refine lv_iload_n hx hb dX8_goes_216 rfl (lv_at hl 1 rfl) ?_
              have e : ta_u g3 1 ((g3 1) + 1) = tg_go t g := by rw [ego]; unfold tg_wind; rw [if_neg (by omega)]
              have ekn : nI 4294967295 = nI (tg_kn g) := by unfold tg_kn; rw [epre, ← ha]; first | rw [if_pos (by omega)] | rw [if_neg (by omega)]
              rw [e] at hP hD
              exact ret _ () dX8_goes_217 rfl ekn hP hD hS
            · refine lv_aload_n hx hb dX8_goes_199 rfl (lv_at hl 3 rfl) ?_
              refine ta_get C hP 0 inlX8 rfl rfl 4 (by decide) tw_128 rfl dX8_goes_200 ?_
              refine ta_iconst C 1 dX8_goes_203 (by decide) ?_
              refine ta_iconst C 0 dX8_goes_204 (by decide) ?_
              refine ta_iast C hP hD hS 2 rfl (i := 1) (v := 0) (by omega) dX8_goes_205 (fun H locs hP hD hS => ?_)
              have hP : va_P D vwCl [(z 0, .inr (8, [.ref (z 1), .int (nI ty), .ref (z 2), .ref (z 3), .ref (z 4), .ref (z 5), .int (nI kn), .ref (z 6), .ref (z 7), .ref (z 8), .int (nI no), .int (nI at_), .int (nI so), .int (nI sr), .int (nI va), .ref (z 9)])), (z 2, .inl (k.1 0, 23, .inl (ta_e t))), (z 4, .inl (k.1 0, 66, .inl (ta_e (ta_u (ta_u g3 1 ((g3 1) + 1)) 1 0))))] H := hP
              have hD : va_D A [(z 0, .inr (8, [.ref (z 1), .int (nI ty), .ref (z 2), .ref (z 3), .ref (z 4), .ref (z 5), .int (nI kn), .ref (z 6), .ref (z 7), .ref (z 8), .int (nI no), .int (nI at_), .int (nI so), .int (nI sr), .int (nI va), .ref (z 9)])), (z 2, .inl (k.1 0, 23, .inl (ta_e t))), (z 4, .inl (k.1 0, 66, .inl (ta_e (ta_u (ta_u g3 1 ((g3 1) + 1)) 1 0))))] := hD
              refine lv_aload_n hx hb dX8_goes_206 rfl (lv_at hl 3 rfl) ?_
              refine ta_get C hP 0 inlX8 rfl rfl 4 (by decide) tw_128 rfl dX8_goes_207 ?_
              refine ta_iconst C 0 dX8_goes_210 (by decide) ?_
              refine lv_dup2_11 hx hb dX8_goes_211 rfl rfl ?_
              refine ta_iald C hP 2 rfl (i := 0) (by omega) dX8_goes_212 ?_
              refine ta_nv (y := (ta_u g3 1 ((g3 1) + 1)) 0) (ta_un (by decide)) ?_
              refine ta_nv (y := g3 0) (ta_un (by decide)) ?_
              refine ta_iconst C 1 dX8_goes_213 (by decide) ?_
              refine ta_iadd C (a := g3 0) (b := 1) dX8_goes_214 ?_
              refine ta_iast C hP hD hS 2 rfl (i := 0) (v := (g3 0) + 1) (by omega) dX8_goes_215 (fun H locs hP hD hS => ?_)
              have hP : va_P D vwCl [(z 0, .inr (8, [.ref (z 1), .int (nI ty), .ref (z 2), .ref (z 3), .ref (z 4), .ref (z 5), .int (nI kn), .ref (z 6), .ref (z 7), .ref (z 8), .int (nI no), .int (nI at_), .int (nI so), .int (nI sr), .int (nI va), .ref (z 9)])), (z 2, .inl (k.1 0, 23, .inl (ta_e t))), (z 4, .inl (k.1 0, 66, .inl (ta_e (ta_u (ta_u (ta_u g3 1 ((g3 1) + 1)) 1 0) 0 ((g3 0) + 1)))))] H := hP
              have hD : va_D A [(z 0, .inr (8, [.ref (z 1), .int (nI ty), .ref (z 2), .ref (z 3), .ref (z 4), .ref (z 5), .int (nI kn), .ref (z 6), .ref (z 7), .ref (z 8), .int (nI no), .int (nI at_), .int (nI so), .int (nI sr), .int (nI va), .ref (z 9)])), (z 2, .inl (k.1 0, 23, .inl (ta_e t))), (z 4, .inl (k.1 0, 66, .inl (ta_e (ta_u (ta_u (ta_u g3 1 ((g3 1) + 1)) 1 0) 0 ((g3 0) + 1)))))] := hD
              refine lv_iload_n hx hb dX8_goes_216 rfl (lv_at hl 1 rfl) ?_
              have e : ta_u (ta_u (ta_u g3 1 ((g3 1) + 1)) 1 0) 0 ((g3 0) + 1) = tg_go t g := by rw [ego]; unfold tg_wind; rw [if_pos (by omega), ta_uu]
              have ekn : nI 4294967295 = nI (tg_kn g) := by unfold tg_kn; rw [epre, ← ha]; first | rw [if_pos (by omega)] | rw [if_neg (by omega)]
              rw [e] at hP hD
              exact ret _ () dX8_goes_217 rfl ekn hP hD hS
          · exact absurd c260 (by decide)
        · refine ta_nv (y := 0) h4 ?_
          refine lv_istore_n (lv' := [(3, .int (nI 0)), (2, .int (nI 4294967295)), (1, .int (nI 1)), (0, .ref (z 0))]) hx hb dX8_goes_44 rfl hl (by decide) rfl (fun ls hl => ?_)
          refine lv_iload_n hx hb dX8_goes_45 rfl (lv_at hl 0 rfl) ?_
          refine ta_iconst C 4294967295 dX8_goes_46 (by decide) ?_
          refine lv_icmp_eq (tgt := 174) hx hb dX8_goes_47 (by decide) (fun c262 => ?_) (fun c262 => ?_)
          · exact absurd c262 (by decide)
          · refine lv_iload_n hx hb dX8_goes_50 rfl (lv_at hl 0 rfl) ?_
            refine lv_if_eq (tgt := 59) hx hb dX8_goes_51 (by decide) (fun c263 => ?_) (fun c263 => ?_)
            · refine lv_aload_n hx hb dX8_goes_59 rfl (lv_at hl 3 rfl) ?_
              refine lv_aload_n hx hb dX8_goes_60 rfl (lv_at hl 3 rfl) ?_
              refine ta_get C hP 0 inlX8 rfl rfl 4 (by decide) tw_128 rfl dX8_goes_61 ?_
              refine ta_iconst C 3 dX8_goes_64 (by decide) ?_
              refine ta_iald C hP 2 rfl (i := 3) (by omega) dX8_goes_65 ?_
              refine ta_callVv (As := [.int (nI (g1 3))]) (rest0 := []) (Wr := []) C hP hD hS (c_X8_steps l D k z ty kn no at_ so sr va t g1 (g1 3) hok1 e3) 0 rfl rfl rfl [0, 1, 2] [] rfl rfl (by decide) (by decide) (by decide) tw_489 tw_486 tw_5 tw_487 tw_488 ⟨by decide, by decide, rfl⟩ ⟨Nat.le_of_ble_eq_true rfl, Nat.le_of_ble_eq_true rfl⟩ ⟨Nat.zero_le _, Nat.zero_le _⟩ hl.1 rfl (Nat.le_of_ble_eq_true rfl) dX8_goes_66 (fun u265 H locs h266 hP hD hS => ?_)
              have hP : va_P D vwCl [(z 0, .inr (8, [.ref (z 1), .int (nI ty), .ref (z 2), .ref (z 3), .ref (z 4), .ref (z 5), .int (nI kn), .ref (z 6), .ref (z 7), .ref (z 8), .int (nI no), .int (nI at_), .int (nI so), .int (nI sr), .int (nI va), .ref (z 9)])), (z 2, .inl (k.1 0, 23, .inl (ta_e t))), (z 4, .inl (k.1 0, 66, .inl (ta_e (tg_step t g1 (g1 3)))))] H := hP
              have hD : va_D A [(z 0, .inr (8, [.ref (z 1), .int (nI ty), .ref (z 2), .ref (z 3), .ref (z 4), .ref (z 5), .int (nI kn), .ref (z 6), .ref (z 7), .ref (z 8), .int (nI no), .int (nI at_), .int (nI so), .int (nI sr), .int (nI va), .ref (z 9)])), (z 2, .inl (k.1 0, 23, .inl (ta_e t))), (z 4, .inl (k.1 0, 66, .inl (ta_e (tg_step t g1 (g1 3)))))] := hD
              refine lv_iload_n hx hb dX8_goes_69 rfl (lv_at hl 0 rfl) ?_
              refine ta_iconst C 2 dX8_goes_70 (by decide) ?_
              refine lv_icmp_ne (tgt := 84) hx hb dX8_goes_71 (by decide) (fun c267 => ?_) (fun c267 => ?_)
              · refine lv_iload_n hx hb dX8_goes_84 rfl (lv_at hl 0 rfl) ?_
                refine ta_iconst C 1 dX8_goes_85 (by decide) ?_
                refine lv_icmp_ne (tgt := 103) hx hb dX8_goes_86 (by decide) (fun c268 => ?_) (fun c268 => ?_)
                · refine lv_iload_n hx hb dX8_goes_103 rfl (lv_at hl 0 rfl) ?_
                  refine ta_iconst C 3 dX8_goes_104 (by decide) ?_
                  refine lv_icmp_ne (tgt := 124) hx hb dX8_goes_105 (by decide) (fun c269 => ?_) (fun c269 => ?_)
                  · refine lv_iload_n hx hb dX8_goes_124 rfl (lv_at hl 0 rfl) ?_
                    refine ta_iconst C 4 dX8_goes_125 (by decide) ?_
                    refine lv_icmp_ne (tgt := 144) hx hb dX8_goes_126 (by decide) (fun c270 => ?_) (fun c270 => ?_)
                    · obtain ⟨g2, hg2⟩ : ∃ z, z = tg_step t g1 (g1 3) := ⟨_, rfl⟩
                      rw [← hg2] at hP hD
                      have eact : tg_act t g1 1 = g2 := by rw [hg2]; unfold tg_act; rw [if_pos h4]
                      have k5 : g2 5 = g1 5 := by rw [← eact]; exact tg_act_k (by omega) e2 (by omega) (by omega) (by omega)
                      have hP : va_P D vwCl [(z 0, .inr (8, [.ref (z 1), .int (nI ty), .ref (z 2), .ref (z 3), .ref (z 4), .ref (z 5), .int (nI kn), .ref (z 6), .ref (z 7), .ref (z 8), .int (nI no), .int (nI at_), .int (nI so), .int (nI sr), .int (nI va), .ref (z 9)])), (z 2, .inl (k.1 0, 23, .inl (ta_e t))), (z 4, .inl (k.1 0, 66, .inl (ta_e g2)))] H := hP
                      have hD : va_D A [(z 0, .inr (8, [.ref (z 1), .int (nI ty), .ref (z 2), .ref (z 3), .ref (z 4), .ref (z 5), .int (nI kn), .ref (z 6), .ref (z 7), .ref (z 8), .int (nI no), .int (nI at_), .int (nI so), .int (nI sr), .int (nI va), .ref (z 9)])), (z 2, .inl (k.1 0, 23, .inl (ta_e t))), (z 4, .inl (k.1 0, 66, .inl (ta_e g2)))] := hD
                      refine lv_aload_n hx hb dX8_goes_144 rfl (lv_at hl 3 rfl) ?_
                      refine ta_get C hP 0 inlX8 rfl rfl 4 (by decide) tw_128 rfl dX8_goes_145 ?_
                      refine ta_iconst C 5 dX8_goes_148 (by decide) ?_
                      refine lv_dup2_11 hx hb dX8_goes_149 rfl rfl ?_
                      refine ta_iald C hP 2 rfl (i := 5) (by omega) dX8_goes_150 ?_
                      refine ta_iconst C 1 dX8_goes_151 (by decide) ?_
                      refine ta_isub C (a := g2 5) (b := 1) (by omega) dX8_goes_152 ?_
                      refine ta_iast C hP hD hS 2 rfl (i := 5) (v := (g2 5) - 1) (by omega) dX8_goes_153 (fun H locs hP hD hS => ?_)
                      have hP : va_P D vwCl [(z 0, .inr (8, [.ref (z 1), .int (nI ty), .ref (z 2), .ref (z 3), .ref (z 4), .ref (z 5), .int (nI kn), .ref (z 6), .ref (z 7), .ref (z 8), .int (nI no), .int (nI at_), .int (nI so), .int (nI sr), .int (nI va), .ref (z 9)])), (z 2, .inl (k.1 0, 23, .inl (ta_e t))), (z 4, .inl (k.1 0, 66, .inl (ta_e (ta_u g2 5 ((g2 5) - 1)))))] H := hP
                      have hD : va_D A [(z 0, .inr (8, [.ref (z 1), .int (nI ty), .ref (z 2), .ref (z 3), .ref (z 4), .ref (z 5), .int (nI kn), .ref (z 6), .ref (z 7), .ref (z 8), .int (nI no), .int (nI at_), .int (nI so), .int (nI sr), .int (nI va), .ref (z 9)])), (z 2, .inl (k.1 0, 23, .inl (ta_e t))), (z 4, .inl (k.1 0, 66, .inl (ta_e (ta_u g2 5 ((g2 5) - 1)))))] := hD
                      refine lv_aload_n hx hb dX8_goes_154 rfl (lv_at hl 3 rfl) ?_
                      refine ta_get C hP 0 inlX8 rfl rfl 4 (by decide) tw_128 rfl dX8_goes_155 ?_
                      refine ta_iconst C 4 dX8_goes_158 (by decide) ?_
                      refine lv_aload_n hx hb dX8_goes_159 rfl (lv_at hl 3 rfl) ?_
                      refine ta_get C hP 0 inlX8 rfl rfl 4 (by decide) tw_128 rfl dX8_goes_160 ?_
                      refine ta_iconst C 5 dX8_goes_163 (by decide) ?_
                      refine ta_iald C hP 2 rfl (i := 5) (by omega) dX8_goes_164 ?_
                      refine ta_nv (y := (g2 5) - 1) ta_us ?_
                      refine ta_ine C (a := (g2 5) - 1) (tgt := 172) (by omega) dX8_goes_165 (by decide) (fun c271 => ?_) (fun c271 => ?_)
                      · refine lv_iload_n hx hb dX8_goes_172 rfl (lv_at hl 0 rfl) ?_
                        refine ta_iast C hP hD hS 2 rfl (i := 4) (v := 0) (by omega) dX8_goes_173 (fun H locs hP hD hS => ?_)
                        have hP : va_P D vwCl [(z 0, .inr (8, [.ref (z 1), .int (nI ty), .ref (z 2), .ref (z 3), .ref (z 4), .ref (z 5), .int (nI kn), .ref (z 6), .ref (z 7), .ref (z 8), .int (nI no), .int (nI at_), .int (nI so), .int (nI sr), .int (nI va), .ref (z 9)])), (z 2, .inl (k.1 0, 23, .inl (ta_e t))), (z 4, .inl (k.1 0, 66, .inl (ta_e (ta_u (ta_u g2 5 ((g2 5) - 1)) 4 0))))] H := hP
                        have hD : va_D A [(z 0, .inr (8, [.ref (z 1), .int (nI ty), .ref (z 2), .ref (z 3), .ref (z 4), .ref (z 5), .int (nI kn), .ref (z 6), .ref (z 7), .ref (z 8), .int (nI no), .int (nI at_), .int (nI so), .int (nI sr), .int (nI va), .ref (z 9)])), (z 2, .inl (k.1 0, 23, .inl (ta_e t))), (z 4, .inl (k.1 0, 66, .inl (ta_e (ta_u (ta_u g2 5 ((g2 5) - 1)) 4 0))))] := hD
                        obtain ⟨g3, hg3⟩ : ∃ z, z = ta_u (ta_u g2 5 ((g2 5) - 1)) 4 0 := ⟨_, rfl⟩
                        rw [← hg3] at hP hD
                        have edo : tg_do t g1 1 = g3 := by unfold tg_do; rw [hg3, eact, k5, if_neg (by omega), h4]
                        have ego : tg_go t g = tg_wind t g3 1 := by unfold tg_go; rw [epre, ← ha, if_neg (by omega), edo]
                        have k1 : g3 1 = g1 1 := by rw [← edo]; exact tg_do_k (by omega) e2 (by omega) (by omega) (by omega) (by omega) (by omega)
                        have hP : va_P D vwCl [(z 0, .inr (8, [.ref (z 1), .int (nI ty), .ref (z 2), .ref (z 3), .ref (z 4), .ref (z 5), .int (nI kn), .ref (z 6), .ref (z 7), .ref (z 8), .int (nI no), .int (nI at_), .int (nI so), .int (nI sr), .int (nI va), .ref (z 9)])), (z 2, .inl (k.1 0, 23, .inl (ta_e t))), (z 4, .inl (k.1 0, 66, .inl (ta_e g3)))] H := hP
                        have hD : va_D A [(z 0, .inr (8, [.ref (z 1), .int (nI ty), .ref (z 2), .ref (z 3), .ref (z 4), .ref (z 5), .int (nI kn), .ref (z 6), .ref (z 7), .ref (z 8), .int (nI no), .int (nI at_), .int (nI so), .int (nI sr), .int (nI va), .ref (z 9)])), (z 2, .inl (k.1 0, 23, .inl (ta_e t))), (z 4, .inl (k.1 0, 66, .inl (ta_e g3)))] := hD
                        refine lv_aload_n hx hb dX8_goes_174 rfl (lv_at hl 3 rfl) ?_
                        refine ta_get C hP 0 inlX8 rfl rfl 4 (by decide) tw_128 rfl dX8_goes_175 ?_
                        refine ta_iconst C 1 dX8_goes_178 (by decide) ?_
                        refine lv_dup2_11 hx hb dX8_goes_179 rfl rfl ?_
                        refine ta_iald C hP 2 rfl (i := 1) (by omega) dX8_goes_180 ?_
                        refine ta_iconst C 1 dX8_goes_181 (by decide) ?_
                        refine ta_iadd C (a := g3 1) (b := 1) dX8_goes_182 ?_
                        refine ta_iast C hP hD hS 2 rfl (i := 1) (v := (g3 1) + 1) (by omega) dX8_goes_183 (fun H locs hP hD hS => ?_)
                        have hP : va_P D vwCl [(z 0, .inr (8, [.ref (z 1), .int (nI ty), .ref (z 2), .ref (z 3), .ref (z 4), .ref (z 5), .int (nI kn), .ref (z 6), .ref (z 7), .ref (z 8), .int (nI no), .int (nI at_), .int (nI so), .int (nI sr), .int (nI va), .ref (z 9)])), (z 2, .inl (k.1 0, 23, .inl (ta_e t))), (z 4, .inl (k.1 0, 66, .inl (ta_e (ta_u g3 1 ((g3 1) + 1)))))] H := hP
                        have hD : va_D A [(z 0, .inr (8, [.ref (z 1), .int (nI ty), .ref (z 2), .ref (z 3), .ref (z 4), .ref (z 5), .int (nI kn), .ref (z 6), .ref (z 7), .ref (z 8), .int (nI no), .int (nI at_), .int (nI so), .int (nI sr), .int (nI va), .ref (z 9)])), (z 2, .inl (k.1 0, 23, .inl (ta_e t))), (z 4, .inl (k.1 0, 66, .inl (ta_e (ta_u g3 1 ((g3 1) + 1)))))] := hD
                        refine lv_aload_n hx hb dX8_goes_184 rfl (lv_at hl 3 rfl) ?_
                        refine ta_get C hP 0 inlX8 rfl rfl 4 (by decide) tw_128 rfl dX8_goes_185 ?_
                        refine ta_iconst C 1 dX8_goes_188 (by decide) ?_
                        refine ta_iald C hP 2 rfl (i := 1) (by omega) dX8_goes_189 ?_
                        refine ta_nv (y := (g3 1) + 1) ta_us ?_
                        refine lv_aload_n hx hb dX8_goes_190 rfl (lv_at hl 3 rfl) ?_
                        refine ta_get C hP 0 inlX8 rfl rfl 2 (by decide) tw_126 rfl dX8_goes_191 ?_
                        refine ta_iconst C 2 dX8_goes_194 (by decide) ?_
                        refine ta_iald C hP 1 rfl (i := 2) (by omega) dX8_goes_195 ?_
                        refine ta_cne C (a := (g3 1) + 1) (b := t 2) (tgt := 216) (by omega) (by omega) dX8_goes_196 (by decide) (fun c272 => ?_) (fun c272 => ?_)
                        · refine lv_iload_n hx hb dX8_goes_216 rfl (lv_at hl 1 rfl) ?_
                          have e : ta_u g3 1 ((g3 1) + 1) = tg_go t g := by rw [ego]; unfold tg_wind; rw [if_neg (by omega)]
                          have ekn : nI 4294967295 = nI (tg_kn g) := by unfold tg_kn; rw [epre, ← ha]; first | rw [if_pos (by omega)] | rw [if_neg (by omega)]
                          rw [e] at hP hD
                          exact ret _ () dX8_goes_217 rfl ekn hP hD hS
                        · refine lv_aload_n hx hb dX8_goes_199 rfl (lv_at hl 3 rfl) ?_
                          refine ta_get C hP 0 inlX8 rfl rfl 4 (by decide) tw_128 rfl dX8_goes_200 ?_
                          refine ta_iconst C 1 dX8_goes_203 (by decide) ?_
                          refine ta_iconst C 0 dX8_goes_204 (by decide) ?_
                          refine ta_iast C hP hD hS 2 rfl (i := 1) (v := 0) (by omega) dX8_goes_205 (fun H locs hP hD hS => ?_)
                          have hP : va_P D vwCl [(z 0, .inr (8, [.ref (z 1), .int (nI ty), .ref (z 2), .ref (z 3), .ref (z 4), .ref (z 5), .int (nI kn), .ref (z 6), .ref (z 7), .ref (z 8), .int (nI no), .int (nI at_), .int (nI so), .int (nI sr), .int (nI va), .ref (z 9)])), (z 2, .inl (k.1 0, 23, .inl (ta_e t))), (z 4, .inl (k.1 0, 66, .inl (ta_e (ta_u (ta_u g3 1 ((g3 1) + 1)) 1 0))))] H := hP
                          have hD : va_D A [(z 0, .inr (8, [.ref (z 1), .int (nI ty), .ref (z 2), .ref (z 3), .ref (z 4), .ref (z 5), .int (nI kn), .ref (z 6), .ref (z 7), .ref (z 8), .int (nI no), .int (nI at_), .int (nI so), .int (nI sr), .int (nI va), .ref (z 9)])), (z 2, .inl (k.1 0, 23, .inl (ta_e t))), (z 4, .inl (k.1 0, 66, .inl (ta_e (ta_u (ta_u g3 1 ((g3 1) + 1)) 1 0))))] := hD
                          refine lv_aload_n hx hb dX8_goes_206 rfl (lv_at hl 3 rfl) ?_
                          refine ta_get C hP 0 inlX8 rfl rfl 4 (by decide) tw_128 rfl dX8_goes_207 ?_
                          refine ta_iconst C 0 dX8_goes_210 (by decide) ?_
                          refine lv_dup2_11 hx hb dX8_goes_211 rfl rfl ?_
                          refine ta_iald C hP 2 rfl (i := 0) (by omega) dX8_goes_212 ?_
                          refine ta_nv (y := (ta_u g3 1 ((g3 1) + 1)) 0) (ta_un (by decide)) ?_
                          refine ta_nv (y := g3 0) (ta_un (by decide)) ?_
                          refine ta_iconst C 1 dX8_goes_213 (by decide) ?_
                          refine ta_iadd C (a := g3 0) (b := 1) dX8_goes_214 ?_
                          refine ta_iast C hP hD hS 2 rfl (i := 0) (v := (g3 0) + 1) (by omega) dX8_goes_215 (fun H locs hP hD hS => ?_)
                          have hP : va_P D vwCl [(z 0, .inr (8, [.ref (z 1), .int (nI ty), .ref (z 2), .ref (z 3), .ref (z 4), .ref (z 5), .int (nI kn), .ref (z 6), .ref (z 7), .ref (z 8), .int (nI no), .int (nI at_), .int (nI so), .int (nI sr), .int (nI va), .ref (z 9)])), (z 2, .inl (k.1 0, 23, .inl (ta_e t))), (z 4, .inl (k.1 0, 66, .inl (ta_e (ta_u (ta_u (ta_u g3 1 ((g3 1) + 1)) 1 0) 0 ((g3 0) + 1)))))] H := hP
                          have hD : va_D A [(z 0, .inr (8, [.ref (z 1), .int (nI ty), .ref (z 2), .ref (z 3), .ref (z 4), .ref (z 5), .int (nI kn), .ref (z 6), .ref (z 7), .ref (z 8), .int (nI no), .int (nI at_), .int (nI so), .int (nI sr), .int (nI va), .ref (z 9)])), (z 2, .inl (k.1 0, 23, .inl (ta_e t))), (z 4, .inl (k.1 0, 66, .inl (ta_e (ta_u (ta_u (ta_u g3 1 ((g3 1) + 1)) 1 0) 0 ((g3 0) + 1)))))] := hD
                          refine lv_iload_n hx hb dX8_goes_216 rfl (lv_at hl 1 rfl) ?_
                          have e : ta_u (ta_u (ta_u g3 1 ((g3 1) + 1)) 1 0) 0 ((g3 0) + 1) = tg_go t g := by rw [ego]; unfold tg_wind; rw [if_pos (by omega), ta_uu]
                          have ekn : nI 4294967295 = nI (tg_kn g) := by unfold tg_kn; rw [epre, ← ha]; first | rw [if_pos (by omega)] | rw [if_neg (by omega)]
                          rw [e] at hP hD
                          exact ret _ () dX8_goes_217 rfl ekn hP hD hS
                      · refine ta_iconst C 4294967295 dX8_goes_168 (by decide) ?_
                        refine lv_goto (tgt := 173) hx hb dX8_goes_169 (by decide) ?_
                        refine ta_iast C hP hD hS 2 rfl (i := 4) (v := 4294967295) (by omega) dX8_goes_173 (fun H locs hP hD hS => ?_)
                        have hP : va_P D vwCl [(z 0, .inr (8, [.ref (z 1), .int (nI ty), .ref (z 2), .ref (z 3), .ref (z 4), .ref (z 5), .int (nI kn), .ref (z 6), .ref (z 7), .ref (z 8), .int (nI no), .int (nI at_), .int (nI so), .int (nI sr), .int (nI va), .ref (z 9)])), (z 2, .inl (k.1 0, 23, .inl (ta_e t))), (z 4, .inl (k.1 0, 66, .inl (ta_e (ta_u (ta_u g2 5 ((g2 5) - 1)) 4 4294967295))))] H := hP
                        have hD : va_D A [(z 0, .inr (8, [.ref (z 1), .int (nI ty), .ref (z 2), .ref (z 3), .ref (z 4), .ref (z 5), .int (nI kn), .ref (z 6), .ref (z 7), .ref (z 8), .int (nI no), .int (nI at_), .int (nI so), .int (nI sr), .int (nI va), .ref (z 9)])), (z 2, .inl (k.1 0, 23, .inl (ta_e t))), (z 4, .inl (k.1 0, 66, .inl (ta_e (ta_u (ta_u g2 5 ((g2 5) - 1)) 4 4294967295))))] := hD
                        obtain ⟨g3, hg3⟩ : ∃ z, z = ta_u (ta_u g2 5 ((g2 5) - 1)) 4 4294967295 := ⟨_, rfl⟩
                        rw [← hg3] at hP hD
                        have edo : tg_do t g1 1 = g3 := by unfold tg_do; rw [hg3, eact, k5, if_pos (by omega)]
                        have ego : tg_go t g = tg_wind t g3 1 := by unfold tg_go; rw [epre, ← ha, if_neg (by omega), edo]
                        have k1 : g3 1 = g1 1 := by rw [← edo]; exact tg_do_k (by omega) e2 (by omega) (by omega) (by omega) (by omega) (by omega)
                        have hP : va_P D vwCl [(z 0, .inr (8, [.ref (z 1), .int (nI ty), .ref (z 2), .ref (z 3), .ref (z 4), .ref (z 5), .int (nI kn), .ref (z 6), .ref (z 7), .ref (z 8), .int (nI no), .int (nI at_), .int (nI so), .int (nI sr), .int (nI va), .ref (z 9)])), (z 2, .inl (k.1 0, 23, .inl (ta_e t))), (z 4, .inl (k.1 0, 66, .inl (ta_e g3)))] H := hP
                        have hD : va_D A [(z 0, .inr (8, [.ref (z 1), .int (nI ty), .ref (z 2), .ref (z 3), .ref (z 4), .ref (z 5), .int (nI kn), .ref (z 6), .ref (z 7), .ref (z 8), .int (nI no), .int (nI at_), .int (nI so), .int (nI sr), .int (nI va), .ref (z 9)])), (z 2, .inl (k.1 0, 23, .inl (ta_e t))), (z 4, .inl (k.1 0, 66, .inl (ta_e g3)))] := hD
                        refine lv_aload_n hx hb dX8_goes_174 rfl (lv_at hl 3 rfl) ?_
                        refine ta_get C hP 0 inlX8 rfl rfl 4 (by decide) tw_128 rfl dX8_goes_175 ?_
                        refine ta_iconst C 1 dX8_goes_178 (by decide) ?_
                        refine lv_dup2_11 hx hb dX8_goes_179 rfl rfl ?_
                        refine ta_iald C hP 2 rfl (i := 1) (by omega) dX8_goes_180 ?_
                        refine ta_iconst C 1 dX8_goes_181 (by decide) ?_
                        refine ta_iadd C (a := g3 1) (b := 1) dX8_goes_182 ?_
                        refine ta_iast C hP hD hS 2 rfl (i := 1) (v := (g3 1) + 1) (by omega) dX8_goes_183 (fun H locs hP hD hS => ?_)
                        have hP : va_P D vwCl [(z 0, .inr (8, [.ref (z 1), .int (nI ty), .ref (z 2), .ref (z 3), .ref (z 4), .ref (z 5), .int (nI kn), .ref (z 6), .ref (z 7), .ref (z 8), .int (nI no), .int (nI at_), .int (nI so), .int (nI sr), .int (nI va), .ref (z 9)])), (z 2, .inl (k.1 0, 23, .inl (ta_e t))), (z 4, .inl (k.1 0, 66, .inl (ta_e (ta_u g3 1 ((g3 1) + 1)))))] H := hP
                        have hD : va_D A [(z 0, .inr (8, [.ref (z 1), .int (nI ty), .ref (z 2), .ref (z 3), .ref (z 4), .ref (z 5), .int (nI kn), .ref (z 6), .ref (z 7), .ref (z 8), .int (nI no), .int (nI at_), .int (nI so), .int (nI sr), .int (nI va), .ref (z 9)])), (z 2, .inl (k.1 0, 23, .inl (ta_e t))), (z 4, .inl (k.1 0, 66, .inl (ta_e (ta_u g3 1 ((g3 1) + 1)))))] := hD
                        refine lv_aload_n hx hb dX8_goes_184 rfl (lv_at hl 3 rfl) ?_
                        refine ta_get C hP 0 inlX8 rfl rfl 4 (by decide) tw_128 rfl dX8_goes_185 ?_
                        refine ta_iconst C 1 dX8_goes_188 (by decide) ?_
                        refine ta_iald C hP 2 rfl (i := 1) (by omega) dX8_goes_189 ?_
                        refine ta_nv (y := (g3 1) + 1) ta_us ?_
                        refine lv_aload_n hx hb dX8_goes_190 rfl (lv_at hl 3 rfl) ?_
                        refine ta_get C hP 0 inlX8 rfl rfl 2 (by decide) tw_126 rfl dX8_goes_191 ?_
                        refine ta_iconst C 2 dX8_goes_194 (by decide) ?_
                        refine ta_iald C hP 1 rfl (i := 2) (by omega) dX8_goes_195 ?_
                        refine ta_cne C (a := (g3 1) + 1) (b := t 2) (tgt := 216) (by omega) (by omega) dX8_goes_196 (by decide) (fun c273 => ?_) (fun c273 => ?_)
                        · refine lv_iload_n hx hb dX8_goes_216 rfl (lv_at hl 1 rfl) ?_
                          have e : ta_u g3 1 ((g3 1) + 1) = tg_go t g := by rw [ego]; unfold tg_wind; rw [if_neg (by omega)]
                          have ekn : nI 4294967295 = nI (tg_kn g) := by unfold tg_kn; rw [epre, ← ha]; first | rw [if_pos (by omega)] | rw [if_neg (by omega)]
                          rw [e] at hP hD
                          exact ret _ () dX8_goes_217 rfl ekn hP hD hS
                        · refine lv_aload_n hx hb dX8_goes_199 rfl (lv_at hl 3 rfl) ?_
                          refine ta_get C hP 0 inlX8 rfl rfl 4 (by decide) tw_128 rfl dX8_goes_200 ?_
                          refine ta_iconst C 1 dX8_goes_203 (by decide) ?_
                          refine ta_iconst C 0 dX8_goes_204 (by decide) ?_
                          refine ta_iast C hP hD hS 2 rfl (i := 1) (v := 0) (by omega) dX8_goes_205 (fun H locs hP hD hS => ?_)
                          have hP : va_P D vwCl [(z 0, .inr (8, [.ref (z 1), .int (nI ty), .ref (z 2), .ref (z 3), .ref (z 4), .ref (z 5), .int (nI kn), .ref (z 6), .ref (z 7), .ref (z 8), .int (nI no), .int (nI at_), .int (nI so), .int (nI sr), .int (nI va), .ref (z 9)])), (z 2, .inl (k.1 0, 23, .inl (ta_e t))), (z 4, .inl (k.1 0, 66, .inl (ta_e (ta_u (ta_u g3 1 ((g3 1) + 1)) 1 0))))] H := hP
                          have hD : va_D A [(z 0, .inr (8, [.ref (z 1), .int (nI ty), .ref (z 2), .ref (z 3), .ref (z 4), .ref (z 5), .int (nI kn), .ref (z 6), .ref (z 7), .ref (z 8), .int (nI no), .int (nI at_), .int (nI so), .int (nI sr), .int (nI va), .ref (z 9)])), (z 2, .inl (k.1 0, 23, .inl (ta_e t))), (z 4, .inl (k.1 0, 66, .inl (ta_e (ta_u (ta_u g3 1 ((g3 1) + 1)) 1 0))))] := hD
                          refine lv_aload_n hx hb dX8_goes_206 rfl (lv_at hl 3 rfl) ?_
                          refine ta_get C hP 0 inlX8 rfl rfl 4 (by decide) tw_128 rfl dX8_goes_207 ?_
                          refine ta_iconst C 0 dX8_goes_210 (by decide) ?_
                          refine lv_dup2_11 hx hb dX8_goes_211 rfl rfl ?_
                          refine ta_iald C hP 2 rfl (i := 0) (by omega) dX8_goes_212 ?_
                          refine ta_nv (y := (ta_u g3 1 ((g3 1) + 1)) 0) (ta_un (by decide)) ?_
                          refine ta_nv (y := g3 0) (ta_un (by decide)) ?_
                          refine ta_iconst C 1 dX8_goes_213 (by decide) ?_
                          refine ta_iadd C (a := g3 0) (b := 1) dX8_goes_214 ?_
                          refine ta_iast C hP hD hS 2 rfl (i := 0) (v := (g3 0) + 1) (by omega) dX8_goes_215 (fun H locs hP hD hS => ?_)
                          have hP : va_P D vwCl [(z 0, .inr (8, [.ref (z 1), .int (nI ty), .ref (z 2), .ref (z 3), .ref (z 4), .ref (z 5), .int (nI kn), .ref (z 6), .ref (z 7), .ref (z 8), .int (nI no), .int (nI at_), .int (nI so), .int (nI sr), .int (nI va), .ref (z 9)])), (z 2, .inl (k.1 0, 23, .inl (ta_e t))), (z 4, .inl (k.1 0, 66, .inl (ta_e (ta_u (ta_u (ta_u g3 1 ((g3 1) + 1)) 1 0) 0 ((g3 0) + 1)))))] H := hP
                          have hD : va_D A [(z 0, .inr (8, [.ref (z 1), .int (nI ty), .ref (z 2), .ref (z 3), .ref (z 4), .ref (z 5), .int (nI kn), .ref (z 6), .ref (z 7), .ref (z 8), .int (nI no), .int (nI at_), .int (nI so), .int (nI sr), .int (nI va), .ref (z 9)])), (z 2, .inl (k.1 0, 23, .inl (ta_e t))), (z 4, .inl (k.1 0, 66, .inl (ta_e (ta_u (ta_u (ta_u g3 1 ((g3 1) + 1)) 1 0) 0 ((g3 0) + 1)))))] := hD
                          refine lv_iload_n hx hb dX8_goes_216 rfl (lv_at hl 1 rfl) ?_
                          have e : ta_u (ta_u (ta_u g3 1 ((g3 1) + 1)) 1 0) 0 ((g3 0) + 1) = tg_go t g := by rw [ego]; unfold tg_wind; rw [if_pos (by omega), ta_uu]
                          have ekn : nI 4294967295 = nI (tg_kn g) := by unfold tg_kn; rw [epre, ← ha]; first | rw [if_pos (by omega)] | rw [if_neg (by omega)]
                          rw [e] at hP hD
                          exact ret _ () dX8_goes_217 rfl ekn hP hD hS
                    · exact absurd c270 (by decide)
                  · exact absurd c269 (by decide)
                · exact absurd c268 (by decide)
              · exact absurd c267 (by decide)
            · exact absurd c263 (by decide)
        · refine ta_nv (y := 1) h4 ?_
          refine lv_istore_n (lv' := [(3, .int (nI 1)), (2, .int (nI 4294967295)), (1, .int (nI 1)), (0, .ref (z 0))]) hx hb dX8_goes_44 rfl hl (by decide) rfl (fun ls hl => ?_)
          refine lv_iload_n hx hb dX8_goes_45 rfl (lv_at hl 0 rfl) ?_
          refine ta_iconst C 4294967295 dX8_goes_46 (by decide) ?_
          refine lv_icmp_eq (tgt := 174) hx hb dX8_goes_47 (by decide) (fun c274 => ?_) (fun c274 => ?_)
          · exact absurd c274 (by decide)
          · refine lv_iload_n hx hb dX8_goes_50 rfl (lv_at hl 0 rfl) ?_
            refine lv_if_eq (tgt := 59) hx hb dX8_goes_51 (by decide) (fun c275 => ?_) (fun c275 => ?_)
            · exact absurd c275 (by decide)
            · refine lv_iload_n hx hb dX8_goes_54 rfl (lv_at hl 0 rfl) ?_
              refine ta_iconst C 2 dX8_goes_55 (by decide) ?_
              refine lv_icmp_ne (tgt := 69) hx hb dX8_goes_56 (by decide) (fun c276 => ?_) (fun c276 => ?_)
              · refine lv_iload_n hx hb dX8_goes_69 rfl (lv_at hl 0 rfl) ?_
                refine ta_iconst C 2 dX8_goes_70 (by decide) ?_
                refine lv_icmp_ne (tgt := 84) hx hb dX8_goes_71 (by decide) (fun c277 => ?_) (fun c277 => ?_)
                · refine lv_iload_n hx hb dX8_goes_84 rfl (lv_at hl 0 rfl) ?_
                  refine ta_iconst C 1 dX8_goes_85 (by decide) ?_
                  refine lv_icmp_ne (tgt := 103) hx hb dX8_goes_86 (by decide) (fun c278 => ?_) (fun c278 => ?_)
                  · exact absurd c278 (by decide)
                  · refine lv_aload_n hx hb dX8_goes_89 rfl (lv_at hl 3 rfl) ?_
                    refine lv_aload_n hx hb dX8_goes_90 rfl (lv_at hl 3 rfl) ?_
                    refine ta_get C hP 0 inlX8 rfl rfl 4 (by decide) tw_128 rfl dX8_goes_91 ?_
                    refine ta_iconst C 3 dX8_goes_94 (by decide) ?_
                    refine ta_iald C hP 2 rfl (i := 3) (by omega) dX8_goes_95 ?_
                    refine ta_iconst C 2 dX8_goes_96 (by decide) ?_
                    refine ta_iadd C (a := g1 3) (b := 2) dX8_goes_97 ?_
                    refine ta_iconst C 4 dX8_goes_98 (by decide) ?_
                    refine ta_irem C (a := (g1 3) + 2) (b := 4) (by omega) (by omega) (by omega) dX8_goes_99 ?_
                    refine ta_callVv (As := [.int (nI (((g1 3) + 2) % 4))]) (rest0 := []) (Wr := []) C hP hD hS (c_X8_steps l D k z ty kn no at_ so sr va t g1 (((g1 3) + 2) % 4) hok1 (by omega)) 0 rfl rfl rfl [0, 1, 2] [] rfl rfl (by decide) (by decide) (by decide) tw_489 tw_486 tw_5 tw_487 tw_488 ⟨by decide, by decide, rfl⟩ ⟨Nat.le_of_ble_eq_true rfl, Nat.le_of_ble_eq_true rfl⟩ ⟨Nat.zero_le _, Nat.zero_le _⟩ hl.1 rfl (Nat.le_of_ble_eq_true rfl) dX8_goes_100 (fun u280 H locs h281 hP hD hS => ?_)
                    have hP : va_P D vwCl [(z 0, .inr (8, [.ref (z 1), .int (nI ty), .ref (z 2), .ref (z 3), .ref (z 4), .ref (z 5), .int (nI kn), .ref (z 6), .ref (z 7), .ref (z 8), .int (nI no), .int (nI at_), .int (nI so), .int (nI sr), .int (nI va), .ref (z 9)])), (z 2, .inl (k.1 0, 23, .inl (ta_e t))), (z 4, .inl (k.1 0, 66, .inl (ta_e (tg_step t g1 (((g1 3) + 2) % 4)))))] H := hP
                    have hD : va_D A [(z 0, .inr (8, [.ref (z 1), .int (nI ty), .ref (z 2), .ref (z 3), .ref (z 4), .ref (z 5), .int (nI kn), .ref (z 6), .ref (z 7), .ref (z 8), .int (nI no), .int (nI at_), .int (nI so), .int (nI sr), .int (nI va), .ref (z 9)])), (z 2, .inl (k.1 0, 23, .inl (ta_e t))), (z 4, .inl (k.1 0, 66, .inl (ta_e (tg_step t g1 (((g1 3) + 2) % 4)))))] := hD
                    refine lv_iload_n hx hb dX8_goes_103 rfl (lv_at hl 0 rfl) ?_
                    refine ta_iconst C 3 dX8_goes_104 (by decide) ?_
                    refine lv_icmp_ne (tgt := 124) hx hb dX8_goes_105 (by decide) (fun c282 => ?_) (fun c282 => ?_)
                    · refine lv_iload_n hx hb dX8_goes_124 rfl (lv_at hl 0 rfl) ?_
                      refine ta_iconst C 4 dX8_goes_125 (by decide) ?_
                      refine lv_icmp_ne (tgt := 144) hx hb dX8_goes_126 (by decide) (fun c283 => ?_) (fun c283 => ?_)
                      · obtain ⟨g2, hg2⟩ : ∃ z, z = tg_step t g1 (((g1 3) + 2) % 4) := ⟨_, rfl⟩
                        rw [← hg2] at hP hD
                        have eact : tg_act t g1 1 = g2 := by rw [hg2]; unfold tg_act; rw [if_neg (by omega), if_pos h4]
                        have k5 : g2 5 = g1 5 := by rw [← eact]; exact tg_act_k (by omega) e2 (by omega) (by omega) (by omega)
                        have hP : va_P D vwCl [(z 0, .inr (8, [.ref (z 1), .int (nI ty), .ref (z 2), .ref (z 3), .ref (z 4), .ref (z 5), .int (nI kn), .ref (z 6), .ref (z 7), .ref (z 8), .int (nI no), .int (nI at_), .int (nI so), .int (nI sr), .int (nI va), .ref (z 9)])), (z 2, .inl (k.1 0, 23, .inl (ta_e t))), (z 4, .inl (k.1 0, 66, .inl (ta_e g2)))] H := hP
                        have hD : va_D A [(z 0, .inr (8, [.ref (z 1), .int (nI ty), .ref (z 2), .ref (z 3), .ref (z 4), .ref (z 5), .int (nI kn), .ref (z 6), .ref (z 7), .ref (z 8), .int (nI no), .int (nI at_), .int (nI so), .int (nI sr), .int (nI va), .ref (z 9)])), (z 2, .inl (k.1 0, 23, .inl (ta_e t))), (z 4, .inl (k.1 0, 66, .inl (ta_e g2)))] := hD
                        refine lv_aload_n hx hb dX8_goes_144 rfl (lv_at hl 3 rfl) ?_
                        refine ta_get C hP 0 inlX8 rfl rfl 4 (by decide) tw_128 rfl dX8_goes_145 ?_
                        refine ta_iconst C 5 dX8_goes_148 (by decide) ?_
                        refine lv_dup2_11 hx hb dX8_goes_149 rfl rfl ?_
                        refine ta_iald C hP 2 rfl (i := 5) (by omega) dX8_goes_150 ?_
                        refine ta_iconst C 1 dX8_goes_151 (by decide) ?_
                        refine ta_isub C (a := g2 5) (b := 1) (by omega) dX8_goes_152 ?_
                        refine ta_iast C hP hD hS 2 rfl (i := 5) (v := (g2 5) - 1) (by omega) dX8_goes_153 (fun H locs hP hD hS => ?_)
                        have hP : va_P D vwCl [(z 0, .inr (8, [.ref (z 1), .int (nI ty), .ref (z 2), .ref (z 3), .ref (z 4), .ref (z 5), .int (nI kn), .ref (z 6), .ref (z 7), .ref (z 8), .int (nI no), .int (nI at_), .int (nI so), .int (nI sr), .int (nI va), .ref (z 9)])), (z 2, .inl (k.1 0, 23, .inl (ta_e t))), (z 4, .inl (k.1 0, 66, .inl (ta_e (ta_u g2 5 ((g2 5) - 1)))))] H := hP
                        have hD : va_D A [(z 0, .inr (8, [.ref (z 1), .int (nI ty), .ref (z 2), .ref (z 3), .ref (z 4), .ref (z 5), .int (nI kn), .ref (z 6), .ref (z 7), .ref (z 8), .int (nI no), .int (nI at_), .int (nI so), .int (nI sr), .int (nI va), .ref (z 9)])), (z 2, .inl (k.1 0, 23, .inl (ta_e t))), (z 4, .inl (k.1 0, 66, .inl (ta_e (ta_u g2 5 ((g2 5) - 1)))))] := hD
                        refine lv_aload_n hx hb dX8_goes_154 rfl (lv_at hl 3 rfl) ?_
                        refine ta_get C hP 0 inlX8 rfl rfl 4 (by decide) tw_128 rfl dX8_goes_155 ?_
                        refine ta_iconst C 4 dX8_goes_158 (by decide) ?_
                        refine lv_aload_n hx hb dX8_goes_159 rfl (lv_at hl 3 rfl) ?_
                        refine ta_get C hP 0 inlX8 rfl rfl 4 (by decide) tw_128 rfl dX8_goes_160 ?_
                        refine ta_iconst C 5 dX8_goes_163 (by decide) ?_
                        refine ta_iald C hP 2 rfl (i := 5) (by omega) dX8_goes_164 ?_
                        refine ta_nv (y := (g2 5) - 1) ta_us ?_
                        refine ta_ine C (a := (g2 5) - 1) (tgt := 172) (by omega) dX8_goes_165 (by decide) (fun c284 => ?_) (fun c284 => ?_)
                        · refine lv_iload_n hx hb dX8_goes_172 rfl (lv_at hl 0 rfl) ?_
                          refine ta_iast C hP hD hS 2 rfl (i := 4) (v := 1) (by omega) dX8_goes_173 (fun H locs hP hD hS => ?_)
                          have hP : va_P D vwCl [(z 0, .inr (8, [.ref (z 1), .int (nI ty), .ref (z 2), .ref (z 3), .ref (z 4), .ref (z 5), .int (nI kn), .ref (z 6), .ref (z 7), .ref (z 8), .int (nI no), .int (nI at_), .int (nI so), .int (nI sr), .int (nI va), .ref (z 9)])), (z 2, .inl (k.1 0, 23, .inl (ta_e t))), (z 4, .inl (k.1 0, 66, .inl (ta_e (ta_u (ta_u g2 5 ((g2 5) - 1)) 4 1))))] H := hP
                          have hD : va_D A [(z 0, .inr (8, [.ref (z 1), .int (nI ty), .ref (z 2), .ref (z 3), .ref (z 4), .ref (z 5), .int (nI kn), .ref (z 6), .ref (z 7), .ref (z 8), .int (nI no), .int (nI at_), .int (nI so), .int (nI sr), .int (nI va), .ref (z 9)])), (z 2, .inl (k.1 0, 23, .inl (ta_e t))), (z 4, .inl (k.1 0, 66, .inl (ta_e (ta_u (ta_u g2 5 ((g2 5) - 1)) 4 1))))] := hD
                          obtain ⟨g3, hg3⟩ : ∃ z, z = ta_u (ta_u g2 5 ((g2 5) - 1)) 4 1 := ⟨_, rfl⟩
                          rw [← hg3] at hP hD
                          have edo : tg_do t g1 1 = g3 := by unfold tg_do; rw [hg3, eact, k5, if_neg (by omega), h4]
                          have ego : tg_go t g = tg_wind t g3 1 := by unfold tg_go; rw [epre, ← ha, if_neg (by omega), edo]
                          have k1 : g3 1 = g1 1 := by rw [← edo]; exact tg_do_k (by omega) e2 (by omega) (by omega) (by omega) (by omega) (by omega)
                          have hP : va_P D vwCl [(z 0, .inr (8, [.ref (z 1), .int (nI ty), .ref (z 2), .ref (z 3), .ref (z 4), .ref (z 5), .int (nI kn), .ref (z 6), .ref (z 7), .ref (z 8), .int (nI no), .int (nI at_), .int (nI so), .int (nI sr), .int (nI va), .ref (z 9)])), (z 2, .inl (k.1 0, 23, .inl (ta_e t))), (z 4, .inl (k.1 0, 66, .inl (ta_e g3)))] H := hP
                          have hD : va_D A [(z 0, .inr (8, [.ref (z 1), .int (nI ty), .ref (z 2), .ref (z 3), .ref (z 4), .ref (z 5), .int (nI kn), .ref (z 6), .ref (z 7), .ref (z 8), .int (nI no), .int (nI at_), .int (nI so), .int (nI sr), .int (nI va), .ref (z 9)])), (z 2, .inl (k.1 0, 23, .inl (ta_e t))), (z 4, .inl (k.1 0, 66, .inl (ta_e g3)))] := hD
                          refine lv_aload_n hx hb dX8_goes_174 rfl (lv_at hl 3 rfl) ?_
                          refine ta_get C hP 0 inlX8 rfl rfl 4 (by decide) tw_128 rfl dX8_goes_175 ?_
                          refine ta_iconst C 1 dX8_goes_178 (by decide) ?_
                          refine lv_dup2_11 hx hb dX8_goes_179 rfl rfl ?_
                          refine ta_iald C hP 2 rfl (i := 1) (by omega) dX8_goes_180 ?_
                          refine ta_iconst C 1 dX8_goes_181 (by decide) ?_
                          refine ta_iadd C (a := g3 1) (b := 1) dX8_goes_182 ?_
                          refine ta_iast C hP hD hS 2 rfl (i := 1) (v := (g3 1) + 1) (by omega) dX8_goes_183 (fun H locs hP hD hS => ?_)
                          have hP : va_P D vwCl [(z 0, .inr (8, [.ref (z 1), .int (nI ty), .ref (z 2), .ref (z 3), .ref (z 4), .ref (z 5), .int (nI kn), .ref (z 6), .ref (z 7), .ref (z 8), .int (nI no), .int (nI at_), .int (nI so), .int (nI sr), .int (nI va), .ref (z 9)])), (z 2, .inl (k.1 0, 23, .inl (ta_e t))), (z 4, .inl (k.1 0, 66, .inl (ta_e (ta_u g3 1 ((g3 1) + 1)))))] H := hP
                          have hD : va_D A [(z 0, .inr (8, [.ref (z 1), .int (nI ty), .ref (z 2), .ref (z 3), .ref (z 4), .ref (z 5), .int (nI kn), .ref (z 6), .ref (z 7), .ref (z 8), .int (nI no), .int (nI at_), .int (nI so), .int (nI sr), .int (nI va), .ref (z 9)])), (z 2, .inl (k.1 0, 23, .inl (ta_e t))), (z 4, .inl (k.1 0, 66, .inl (ta_e (ta_u g3 1 ((g3 1) + 1)))))] := hD
                          refine lv_aload_n hx hb dX8_goes_184 rfl (lv_at hl 3 rfl) ?_
                          refine ta_get C hP 0 inlX8 rfl rfl 4 (by decide) tw_128 rfl dX8_goes_185 ?_
                          refine ta_iconst C 1 dX8_goes_188 (by decide) ?_
                          refine ta_iald C hP 2 rfl (i := 1) (by omega) dX8_goes_189 ?_
                          refine ta_nv (y := (g3 1) + 1) ta_us ?_
                          refine lv_aload_n hx hb dX8_goes_190 rfl (lv_at hl 3 rfl) ?_
                          refine ta_get C hP 0 inlX8 rfl rfl 2 (by decide) tw_126 rfl dX8_goes_191 ?_
                          refine ta_iconst C 2 dX8_goes_194 (by decide) ?_
                          refine ta_iald C hP 1 rfl (i := 2) (by omega) dX8_goes_195 ?_
                          refine ta_cne C (a := (g3 1) + 1) (b := t 2) (tgt := 216) (by omega) (by omega) dX8_goes_196 (by decide) (fun c285 => ?_) (fun c285 => ?_)
                          · refine lv_iload_n hx hb dX8_goes_216 rfl (lv_at hl 1 rfl) ?_
                            have e : ta_u g3 1 ((g3 1) + 1) = tg_go t g := by rw [ego]; unfold tg_wind; rw [if_neg (by omega)]
                            have ekn : nI 4294967295 = nI (tg_kn g) := by unfold tg_kn; rw [epre, ← ha]; first | rw [if_pos (by omega)] | rw [if_neg (by omega)]
                            rw [e] at hP hD
                            exact ret _ () dX8_goes_217 rfl ekn hP hD hS
                          · refine lv_aload_n hx hb dX8_goes_199 rfl (lv_at hl 3 rfl) ?_
                            refine ta_get C hP 0 inlX8 rfl rfl 4 (by decide) tw_128 rfl dX8_goes_200 ?_
                            refine ta_iconst C 1 dX8_goes_203 (by decide) ?_
                            refine ta_iconst C 0 dX8_goes_204 (by decide) ?_
                            refine ta_iast C hP hD hS 2 rfl (i := 1) (v := 0) (by omega) dX8_goes_205 (fun H locs hP hD hS => ?_)
                            have hP : va_P D vwCl [(z 0, .inr (8, [.ref (z 1), .int (nI ty), .ref (z 2), .ref (z 3), .ref (z 4), .ref (z 5), .int (nI kn), .ref (z 6), .ref (z 7), .ref (z 8), .int (nI no), .int (nI at_), .int (nI so), .int (nI sr), .int (nI va), .ref (z 9)])), (z 2, .inl (k.1 0, 23, .inl (ta_e t))), (z 4, .inl (k.1 0, 66, .inl (ta_e (ta_u (ta_u g3 1 ((g3 1) + 1)) 1 0))))] H := hP
                            have hD : va_D A [(z 0, .inr (8, [.ref (z 1), .int (nI ty), .ref (z 2), .ref (z 3), .ref (z 4), .ref (z 5), .int (nI kn), .ref (z 6), .ref (z 7), .ref (z 8), .int (nI no), .int (nI at_), .int (nI so), .int (nI sr), .int (nI va), .ref (z 9)])), (z 2, .inl (k.1 0, 23, .inl (ta_e t))), (z 4, .inl (k.1 0, 66, .inl (ta_e (ta_u (ta_u g3 1 ((g3 1) + 1)) 1 0))))] := hD
                            refine lv_aload_n hx hb dX8_goes_206 rfl (lv_at hl 3 rfl) ?_
                            refine ta_get C hP 0 inlX8 rfl rfl 4 (by decide) tw_128 rfl dX8_goes_207 ?_
                            refine ta_iconst C 0 dX8_goes_210 (by decide) ?_
                            refine lv_dup2_11 hx hb dX8_goes_211 rfl rfl ?_
                            refine ta_iald C hP 2 rfl (i := 0) (by omega) dX8_goes_212 ?_
                            refine ta_nv (y := (ta_u g3 1 ((g3 1) + 1)) 0) (ta_un (by decide)) ?_
                            refine ta_nv (y := g3 0) (ta_un (by decide)) ?_
                            refine ta_iconst C 1 dX8_goes_213 (by decide) ?_
                            refine ta_iadd C (a := g3 0) (b := 1) dX8_goes_214 ?_
                            refine ta_iast C hP hD hS 2 rfl (i := 0) (v := (g3 0) + 1) (by omega) dX8_goes_215 (fun H locs hP hD hS => ?_)
                            have hP : va_P D vwCl [(z 0, .inr (8, [.ref (z 1), .int (nI ty), .ref (z 2), .ref (z 3), .ref (z 4), .ref (z 5), .int (nI kn), .ref (z 6), .ref (z 7), .ref (z 8), .int (nI no), .int (nI at_), .int (nI so), .int (nI sr), .int (nI va), .ref (z 9)])), (z 2, .inl (k.1 0, 23, .inl (ta_e t))), (z 4, .inl (k.1 0, 66, .inl (ta_e (ta_u (ta_u (ta_u g3 1 ((g3 1) + 1)) 1 0) 0 ((g3 0) + 1)))))] H := hP
                            have hD : va_D A [(z 0, .inr (8, [.ref (z 1), .int (nI ty), .ref (z 2), .ref (z 3), .ref (z 4), .ref (z 5), .int (nI kn), .ref (z 6), .ref (z 7), .ref (z 8), .int (nI no), .int (nI at_), .int (nI so), .int (nI sr), .int (nI va), .ref (z 9)])), (z 2, .inl (k.1 0, 23, .inl (ta_e t))), (z 4, .inl (k.1 0, 66, .inl (ta_e (ta_u (ta_u (ta_u g3 1 ((g3 1) + 1)) 1 0) 0 ((g3 0) + 1)))))] := hD
                            refine lv_iload_n hx hb dX8_goes_216 rfl (lv_at hl 1 rfl) ?_
                            have e : ta_u (ta_u (ta_u g3 1 ((g3 1) + 1)) 1 0) 0 ((g3 0) + 1) = tg_go t g := by rw [ego]; unfold tg_wind; rw [if_pos (by omega), ta_uu]
                            have ekn : nI 4294967295 = nI (tg_kn g) := by unfold tg_kn; rw [epre, ← ha]; first | rw [if_pos (by omega)] | rw [if_neg (by omega)]
                            rw [e] at hP hD
                            exact ret _ () dX8_goes_217 rfl ekn hP hD hS
                        · refine ta_iconst C 4294967295 dX8_goes_168 (by decide) ?_
                          refine lv_goto (tgt := 173) hx hb dX8_goes_169 (by decide) ?_
                          refine ta_iast C hP hD hS 2 rfl (i := 4) (v := 4294967295) (by omega) dX8_goes_173 (fun H locs hP hD hS => ?_)
                          have hP : va_P D vwCl [(z 0, .inr (8, [.ref (z 1), .int (nI ty), .ref (z 2), .ref (z 3), .ref (z 4), .ref (z 5), .int (nI kn), .ref (z 6), .ref (z 7), .ref (z 8), .int (nI no), .int (nI at_), .int (nI so), .int (nI sr), .int (nI va), .ref (z 9)])), (z 2, .inl (k.1 0, 23, .inl (ta_e t))), (z 4, .inl (k.1 0, 66, .inl (ta_e (ta_u (ta_u g2 5 ((g2 5) - 1)) 4 4294967295))))] H := hP
                          have hD : va_D A [(z 0, .inr (8, [.ref (z 1), .int (nI ty), .ref (z 2), .ref (z 3), .ref (z 4), .ref (z 5), .int (nI kn), .ref (z 6), .ref (z 7), .ref (z 8), .int (nI no), .int (nI at_), .int (nI so), .int (nI sr), .int (nI va), .ref (z 9)])), (z 2, .inl (k.1 0, 23, .inl (ta_e t))), (z 4, .inl (k.1 0, 66, .inl (ta_e (ta_u (ta_u g2 5 ((g2 5) - 1)) 4 4294967295))))] := hD
                          obtain ⟨g3, hg3⟩ : ∃ z, z = ta_u (ta_u g2 5 ((g2 5) - 1)) 4 4294967295 := ⟨_, rfl⟩
                          rw [← hg3] at hP hD
                          have edo : tg_do t g1 1 = g3 := by unfold tg_do; rw [hg3, eact, k5, if_pos (by omega)]
                          have ego : tg_go t g = tg_wind t g3 1 := by unfold tg_go; rw [epre, ← ha, if_neg (by omega), edo]
                          have k1 : g3 1 = g1 1 := by rw [← edo]; exact tg_do_k (by omega) e2 (by omega) (by omega) (by omega) (by omega) (by omega)
                          have hP : va_P D vwCl [(z 0, .inr (8, [.ref (z 1), .int (nI ty), .ref (z 2), .ref (z 3), .ref (z 4), .ref (z 5), .int (nI kn), .ref (z 6), .ref (z 7), .ref (z 8), .int (nI no), .int (nI at_), .int (nI so), .int (nI sr), .int (nI va), .ref (z 9)])), (z 2, .inl (k.1 0, 23, .inl (ta_e t))), (z 4, .inl (k.1 0, 66, .inl (ta_e g3)))] H := hP
                          have hD : va_D A [(z 0, .inr (8, [.ref (z 1), .int (nI ty), .ref (z 2), .ref (z 3), .ref (z 4), .ref (z 5), .int (nI kn), .ref (z 6), .ref (z 7), .ref (z 8), .int (nI no), .int (nI at_), .int (nI so), .int (nI sr), .int (nI va), .ref (z 9)])), (z 2, .inl (k.1 0, 23, .inl (ta_e t))), (z 4, .inl (k.1 0, 66, .inl (ta_e g3)))] := hD
                          refine lv_aload_n hx hb dX8_goes_174 rfl (lv_at hl 3 rfl) ?_
                          refine ta_get C hP 0 inlX8 rfl rfl 4 (by decide) tw_128 rfl dX8_goes_175 ?_
                          refine ta_iconst C 1 dX8_goes_178 (by decide) ?_
                          refine lv_dup2_11 hx hb dX8_goes_179 rfl rfl ?_
                          refine ta_iald C hP 2 rfl (i := 1) (by omega) dX8_goes_180 ?_
                          refine ta_iconst C 1 dX8_goes_181 (by decide) ?_
                          refine ta_iadd C (a := g3 1) (b := 1) dX8_goes_182 ?_
                          refine ta_iast C hP hD hS 2 rfl (i := 1) (v := (g3 1) + 1) (by omega) dX8_goes_183 (fun H locs hP hD hS => ?_)
                          have hP : va_P D vwCl [(z 0, .inr (8, [.ref (z 1), .int (nI ty), .ref (z 2), .ref (z 3), .ref (z 4), .ref (z 5), .int (nI kn), .ref (z 6), .ref (z 7), .ref (z 8), .int (nI no), .int (nI at_), .int (nI so), .int (nI sr), .int (nI va), .ref (z 9)])), (z 2, .inl (k.1 0, 23, .inl (ta_e t))), (z 4, .inl (k.1 0, 66, .inl (ta_e (ta_u g3 1 ((g3 1) + 1)))))] H := hP
                          have hD : va_D A [(z 0, .inr (8, [.ref (z 1), .int (nI ty), .ref (z 2), .ref (z 3), .ref (z 4), .ref (z 5), .int (nI kn), .ref (z 6), .ref (z 7), .ref (z 8), .int (nI no), .int (nI at_), .int (nI so), .int (nI sr), .int (nI va), .ref (z 9)])), (z 2, .inl (k.1 0, 23, .inl (ta_e t))), (z 4, .inl (k.1 0, 66, .inl (ta_e (ta_u g3 1 ((g3 1) + 1)))))] := hD
                          refine lv_aload_n hx hb dX8_goes_184 rfl (lv_at hl 3 rfl) ?_
                          refine ta_get C hP 0 inlX8 rfl rfl 4 (by decide) tw_128 rfl dX8_goes_185 ?_
                          refine ta_iconst C 1 dX8_goes_188 (by decide) ?_
                          refine ta_iald C hP 2 rfl (i := 1) (by omega) dX8_goes_189 ?_
                          refine ta_nv (y := (g3 1) + 1) ta_us ?_
                          refine lv_aload_n hx hb dX8_goes_190 rfl (lv_at hl 3 rfl) ?_
                          refine ta_get C hP 0 inlX8 rfl rfl 2 (by decide) tw_126 rfl dX8_goes_191 ?_
                          refine ta_iconst C 2 dX8_goes_194 (by decide) ?_
                          refine ta_iald C hP 1 rfl (i := 2) (by omega) dX8_goes_195 ?_
                          refine ta_cne C (a := (g3 1) + 1) (b := t 2) (tgt := 216) (by omega) (by omega) dX8_goes_196 (by decide) (fun c286 => ?_) (fun c286 => ?_)
                          · refine lv_iload_n hx hb dX8_goes_216 rfl (lv_at hl 1 rfl) ?_
                            have e : ta_u g3 1 ((g3 1) + 1) = tg_go t g := by rw [ego]; unfold tg_wind; rw [if_neg (by omega)]
                            have ekn : nI 4294967295 = nI (tg_kn g) := by unfold tg_kn; rw [epre, ← ha]; first | rw [if_pos (by omega)] | rw [if_neg (by omega)]
                            rw [e] at hP hD
                            exact ret _ () dX8_goes_217 rfl ekn hP hD hS
                          · refine lv_aload_n hx hb dX8_goes_199 rfl (lv_at hl 3 rfl) ?_
                            refine ta_get C hP 0 inlX8 rfl rfl 4 (by decide) tw_128 rfl dX8_goes_200 ?_
                            refine ta_iconst C 1 dX8_goes_203 (by decide) ?_
                            refine ta_iconst C 0 dX8_goes_204 (by decide) ?_
                            refine ta_iast C hP hD hS 2 rfl (i := 1) (v := 0) (by omega) dX8_goes_205 (fun H locs hP hD hS => ?_)
                            have hP : va_P D vwCl [(z 0, .inr (8, [.ref (z 1), .int (nI ty), .ref (z 2), .ref (z 3), .ref (z 4), .ref (z 5), .int (nI kn), .ref (z 6), .ref (z 7), .ref (z 8), .int (nI no), .int (nI at_), .int (nI so), .int (nI sr), .int (nI va), .ref (z 9)])), (z 2, .inl (k.1 0, 23, .inl (ta_e t))), (z 4, .inl (k.1 0, 66, .inl (ta_e (ta_u (ta_u g3 1 ((g3 1) + 1)) 1 0))))] H := hP
                            have hD : va_D A [(z 0, .inr (8, [.ref (z 1), .int (nI ty), .ref (z 2), .ref (z 3), .ref (z 4), .ref (z 5), .int (nI kn), .ref (z 6), .ref (z 7), .ref (z 8), .int (nI no), .int (nI at_), .int (nI so), .int (nI sr), .int (nI va), .ref (z 9)])), (z 2, .inl (k.1 0, 23, .inl (ta_e t))), (z 4, .inl (k.1 0, 66, .inl (ta_e (ta_u (ta_u g3 1 ((g3 1) + 1)) 1 0))))] := hD
                            refine lv_aload_n hx hb dX8_goes_206 rfl (lv_at hl 3 rfl) ?_
                            refine ta_get C hP 0 inlX8 rfl rfl 4 (by decide) tw_128 rfl dX8_goes_207 ?_
                            refine ta_iconst C 0 dX8_goes_210 (by decide) ?_
                            refine lv_dup2_11 hx hb dX8_goes_211 rfl rfl ?_
                            refine ta_iald C hP 2 rfl (i := 0) (by omega) dX8_goes_212 ?_
                            refine ta_nv (y := (ta_u g3 1 ((g3 1) + 1)) 0) (ta_un (by decide)) ?_
                            refine ta_nv (y := g3 0) (ta_un (by decide)) ?_
                            refine ta_iconst C 1 dX8_goes_213 (by decide) ?_
                            refine ta_iadd C (a := g3 0) (b := 1) dX8_goes_214 ?_
                            refine ta_iast C hP hD hS 2 rfl (i := 0) (v := (g3 0) + 1) (by omega) dX8_goes_215 (fun H locs hP hD hS => ?_)
                            have hP : va_P D vwCl [(z 0, .inr (8, [.ref (z 1), .int (nI ty), .ref (z 2), .ref (z 3), .ref (z 4), .ref (z 5), .int (nI kn), .ref (z 6), .ref (z 7), .ref (z 8), .int (nI no), .int (nI at_), .int (nI so), .int (nI sr), .int (nI va), .ref (z 9)])), (z 2, .inl (k.1 0, 23, .inl (ta_e t))), (z 4, .inl (k.1 0, 66, .inl (ta_e (ta_u (ta_u (ta_u g3 1 ((g3 1) + 1)) 1 0) 0 ((g3 0) + 1)))))] H := hP
                            have hD : va_D A [(z 0, .inr (8, [.ref (z 1), .int (nI ty), .ref (z 2), .ref (z 3), .ref (z 4), .ref (z 5), .int (nI kn), .ref (z 6), .ref (z 7), .ref (z 8), .int (nI no), .int (nI at_), .int (nI so), .int (nI sr), .int (nI va), .ref (z 9)])), (z 2, .inl (k.1 0, 23, .inl (ta_e t))), (z 4, .inl (k.1 0, 66, .inl (ta_e (ta_u (ta_u (ta_u g3 1 ((g3 1) + 1)) 1 0) 0 ((g3 0) + 1)))))] := hD
                            refine lv_iload_n hx hb dX8_goes_216 rfl (lv_at hl 1 rfl) ?_
                            have e : ta_u (ta_u (ta_u g3 1 ((g3 1) + 1)) 1 0) 0 ((g3 0) + 1) = tg_go t g := by rw [ego]; unfold tg_wind; rw [if_pos (by omega), ta_uu]
                            have ekn : nI 4294967295 = nI (tg_kn g) := by unfold tg_kn; rw [epre, ← ha]; first | rw [if_pos (by omega)] | rw [if_neg (by omega)]
                            rw [e] at hP hD
                            exact ret _ () dX8_goes_217 rfl ekn hP hD hS
                      · exact absurd c283 (by decide)
                    · exact absurd c282 (by decide)
                · exact absurd c277 (by decide)
              · exact absurd c276 (by decide)
        · refine ta_nv (y := 2) h4 ?_
          refine lv_istore_n (lv' := [(3, .int (nI 2)), (2, .int (nI 4294967295)), (1, .int (nI 1)), (0, .ref (z 0))]) hx hb dX8_goes_44 rfl hl (by decide) rfl (fun ls hl => ?_)
          refine lv_iload_n hx hb dX8_goes_45 rfl (lv_at hl 0 rfl) ?_
          refine ta_iconst C 4294967295 dX8_goes_46 (by decide) ?_
          refine lv_icmp_eq (tgt := 174) hx hb dX8_goes_47 (by decide) (fun c287 => ?_) (fun c287 => ?_)
          · exact absurd c287 (by decide)
          · refine lv_iload_n hx hb dX8_goes_50 rfl (lv_at hl 0 rfl) ?_
            refine lv_if_eq (tgt := 59) hx hb dX8_goes_51 (by decide) (fun c288 => ?_) (fun c288 => ?_)
            · exact absurd c288 (by decide)
            · refine lv_iload_n hx hb dX8_goes_54 rfl (lv_at hl 0 rfl) ?_
              refine ta_iconst C 2 dX8_goes_55 (by decide) ?_
              refine lv_icmp_ne (tgt := 69) hx hb dX8_goes_56 (by decide) (fun c289 => ?_) (fun c289 => ?_)
              · exact absurd c289 (by decide)
              · refine lv_aload_n hx hb dX8_goes_59 rfl (lv_at hl 3 rfl) ?_
                refine lv_aload_n hx hb dX8_goes_60 rfl (lv_at hl 3 rfl) ?_
                refine ta_get C hP 0 inlX8 rfl rfl 4 (by decide) tw_128 rfl dX8_goes_61 ?_
                refine ta_iconst C 3 dX8_goes_64 (by decide) ?_
                refine ta_iald C hP 2 rfl (i := 3) (by omega) dX8_goes_65 ?_
                refine ta_callVv (As := [.int (nI (g1 3))]) (rest0 := []) (Wr := []) C hP hD hS (c_X8_steps l D k z ty kn no at_ so sr va t g1 (g1 3) hok1 e3) 0 rfl rfl rfl [0, 1, 2] [] rfl rfl (by decide) (by decide) (by decide) tw_489 tw_486 tw_5 tw_487 tw_488 ⟨by decide, by decide, rfl⟩ ⟨Nat.le_of_ble_eq_true rfl, Nat.le_of_ble_eq_true rfl⟩ ⟨Nat.zero_le _, Nat.zero_le _⟩ hl.1 rfl (Nat.le_of_ble_eq_true rfl) dX8_goes_66 (fun u291 H locs h292 hP hD hS => ?_)
                have hP : va_P D vwCl [(z 0, .inr (8, [.ref (z 1), .int (nI ty), .ref (z 2), .ref (z 3), .ref (z 4), .ref (z 5), .int (nI kn), .ref (z 6), .ref (z 7), .ref (z 8), .int (nI no), .int (nI at_), .int (nI so), .int (nI sr), .int (nI va), .ref (z 9)])), (z 2, .inl (k.1 0, 23, .inl (ta_e t))), (z 4, .inl (k.1 0, 66, .inl (ta_e (tg_step t g1 (g1 3)))))] H := hP
                have hD : va_D A [(z 0, .inr (8, [.ref (z 1), .int (nI ty), .ref (z 2), .ref (z 3), .ref (z 4), .ref (z 5), .int (nI kn), .ref (z 6), .ref (z 7), .ref (z 8), .int (nI no), .int (nI at_), .int (nI so), .int (nI sr), .int (nI va), .ref (z 9)])), (z 2, .inl (k.1 0, 23, .inl (ta_e t))), (z 4, .inl (k.1 0, 66, .inl (ta_e (tg_step t g1 (g1 3)))))] := hD
                refine lv_iload_n hx hb dX8_goes_69 rfl (lv_at hl 0 rfl) ?_
                refine ta_iconst C 2 dX8_goes_70 (by decide) ?_
                refine lv_icmp_ne (tgt := 84) hx hb dX8_goes_71 (by decide) (fun c293 => ?_) (fun c293 => ?_)
                · exact absurd c293 (by decide)
                · refine lv_aload_n hx hb dX8_goes_74 rfl (lv_at hl 3 rfl) ?_
                  refine lv_aload_n hx hb dX8_goes_75 rfl (lv_at hl 3 rfl) ?_
                  refine ta_get C hP 0 inlX8 rfl rfl 4 (by decide) tw_128 rfl dX8_goes_76 ?_
                  refine ta_iconst C 3 dX8_goes_79 (by decide) ?_
                  refine ta_iald C hP 2 rfl (i := 3) (by omega) dX8_goes_80 ?_
                  refine ta_callVv (As := [.int (nI ((tg_step t g1 (g1 3)) 3))]) (rest0 := []) (Wr := []) C hP hD hS (c_X8_steps l D k z ty kn no at_ so sr va t (tg_step t g1 (g1 3)) ((tg_step t g1 (g1 3)) 3) (tg_ok_step _ hok1) (by rw [tg_step_k (by omega) e2 (by omega) (by omega)]; exact e3)) 0 rfl rfl rfl [0, 1, 2] [] rfl rfl (by decide) (by decide) (by decide) tw_489 tw_486 tw_5 tw_487 tw_488 ⟨by decide, by decide, rfl⟩ ⟨Nat.le_of_ble_eq_true rfl, Nat.le_of_ble_eq_true rfl⟩ ⟨Nat.zero_le _, Nat.zero_le _⟩ hl.1 rfl (Nat.le_of_ble_eq_true rfl) dX8_goes_81 (fun u295 H locs h296 hP hD hS => ?_)
                  have hP : va_P D vwCl [(z 0, .inr (8, [.ref (z 1), .int (nI ty), .ref (z 2), .ref (z 3), .ref (z 4), .ref (z 5), .int (nI kn), .ref (z 6), .ref (z 7), .ref (z 8), .int (nI no), .int (nI at_), .int (nI so), .int (nI sr), .int (nI va), .ref (z 9)])), (z 2, .inl (k.1 0, 23, .inl (ta_e t))), (z 4, .inl (k.1 0, 66, .inl (ta_e (tg_step t (tg_step t g1 (g1 3)) ((tg_step t g1 (g1 3)) 3)))))] H := hP
                  have hD : va_D A [(z 0, .inr (8, [.ref (z 1), .int (nI ty), .ref (z 2), .ref (z 3), .ref (z 4), .ref (z 5), .int (nI kn), .ref (z 6), .ref (z 7), .ref (z 8), .int (nI no), .int (nI at_), .int (nI so), .int (nI sr), .int (nI va), .ref (z 9)])), (z 2, .inl (k.1 0, 23, .inl (ta_e t))), (z 4, .inl (k.1 0, 66, .inl (ta_e (tg_step t (tg_step t g1 (g1 3)) ((tg_step t g1 (g1 3)) 3)))))] := hD
                  refine lv_iload_n hx hb dX8_goes_84 rfl (lv_at hl 0 rfl) ?_
                  refine ta_iconst C 1 dX8_goes_85 (by decide) ?_
                  refine lv_icmp_ne (tgt := 103) hx hb dX8_goes_86 (by decide) (fun c297 => ?_) (fun c297 => ?_)
                  · refine lv_iload_n hx hb dX8_goes_103 rfl (lv_at hl 0 rfl) ?_
                    refine ta_iconst C 3 dX8_goes_104 (by decide) ?_
                    refine lv_icmp_ne (tgt := 124) hx hb dX8_goes_105 (by decide) (fun c298 => ?_) (fun c298 => ?_)
                    · refine lv_iload_n hx hb dX8_goes_124 rfl (lv_at hl 0 rfl) ?_
                      refine ta_iconst C 4 dX8_goes_125 (by decide) ?_
                      refine lv_icmp_ne (tgt := 144) hx hb dX8_goes_126 (by decide) (fun c299 => ?_) (fun c299 => ?_)
                      · obtain ⟨g2, hg2⟩ : ∃ z, z = tg_step t (tg_step t g1 (g1 3)) ((tg_step t g1 (g1 3)) 3) := ⟨_, rfl⟩
                        rw [← hg2] at hP hD
                        have eact : tg_act t g1 1 = g2 := by rw [hg2, show (tg_step t g1 (g1 3)) 3 = g1 3 from tg_step_k (by omega) e2 (by omega) (by omega)]; unfold tg_act; rw [if_neg (by omega), if_neg (by omega), if_pos h4]
                        have k5 : g2 5 = g1 5 := by rw [← eact]; exact tg_act_k (by omega) e2 (by omega) (by omega) (by omega)
                        have hP : va_P D vwCl [(z 0, .inr (8, [.ref (z 1), .int (nI ty), .ref (z 2), .ref (z 3), .ref (z 4), .ref (z 5), .int (nI kn), .ref (z 6), .ref (z 7), .ref (z 8), .int (nI no), .int (nI at_), .int (nI so), .int (nI sr), .int (nI va), .ref (z 9)])), (z 2, .inl (k.1 0, 23, .inl (ta_e t))), (z 4, .inl (k.1 0, 66, .inl (ta_e g2)))] H := hP
                        have hD : va_D A [(z 0, .inr (8, [.ref (z 1), .int (nI ty), .ref (z 2), .ref (z 3), .ref (z 4), .ref (z 5), .int (nI kn), .ref (z 6), .ref (z 7), .ref (z 8), .int (nI no), .int (nI at_), .int (nI so), .int (nI sr), .int (nI va), .ref (z 9)])), (z 2, .inl (k.1 0, 23, .inl (ta_e t))), (z 4, .inl (k.1 0, 66, .inl (ta_e g2)))] := hD
                        refine lv_aload_n hx hb dX8_goes_144 rfl (lv_at hl 3 rfl) ?_
                        refine ta_get C hP 0 inlX8 rfl rfl 4 (by decide) tw_128 rfl dX8_goes_145 ?_
                        refine ta_iconst C 5 dX8_goes_148 (by decide) ?_
                        refine lv_dup2_11 hx hb dX8_goes_149 rfl rfl ?_
                        refine ta_iald C hP 2 rfl (i := 5) (by omega) dX8_goes_150 ?_
                        refine ta_iconst C 1 dX8_goes_151 (by decide) ?_
                        refine ta_isub C (a := g2 5) (b := 1) (by omega) dX8_goes_152 ?_
                        refine ta_iast C hP hD hS 2 rfl (i := 5) (v := (g2 5) - 1) (by omega) dX8_goes_153 (fun H locs hP hD hS => ?_)
                        have hP : va_P D vwCl [(z 0, .inr (8, [.ref (z 1), .int (nI ty), .ref (z 2), .ref (z 3), .ref (z 4), .ref (z 5), .int (nI kn), .ref (z 6), .ref (z 7), .ref (z 8), .int (nI no), .int (nI at_), .int (nI so), .int (nI sr), .int (nI va), .ref (z 9)])), (z 2, .inl (k.1 0, 23, .inl (ta_e t))), (z 4, .inl (k.1 0, 66, .inl (ta_e (ta_u g2 5 ((g2 5) - 1)))))] H := hP
                        have hD : va_D A [(z 0, .inr (8, [.ref (z 1), .int (nI ty), .ref (z 2), .ref (z 3), .ref (z 4), .ref (z 5), .int (nI kn), .ref (z 6), .ref (z 7), .ref (z 8), .int (nI no), .int (nI at_), .int (nI so), .int (nI sr), .int (nI va), .ref (z 9)])), (z 2, .inl (k.1 0, 23, .inl (ta_e t))), (z 4, .inl (k.1 0, 66, .inl (ta_e (ta_u g2 5 ((g2 5) - 1)))))] := hD
                        refine lv_aload_n hx hb dX8_goes_154 rfl (lv_at hl 3 rfl) ?_
                        refine ta_get C hP 0 inlX8 rfl rfl 4 (by decide) tw_128 rfl dX8_goes_155 ?_
                        refine ta_iconst C 4 dX8_goes_158 (by decide) ?_
                        refine lv_aload_n hx hb dX8_goes_159 rfl (lv_at hl 3 rfl) ?_
                        refine ta_get C hP 0 inlX8 rfl rfl 4 (by decide) tw_128 rfl dX8_goes_160 ?_
                        refine ta_iconst C 5 dX8_goes_163 (by decide) ?_
                        refine ta_iald C hP 2 rfl (i := 5) (by omega) dX8_goes_164 ?_
                        refine ta_nv (y := (g2 5) - 1) ta_us ?_
                        refine ta_ine C (a := (g2 5) - 1) (tgt := 172) (by omega) dX8_goes_165 (by decide) (fun c300 => ?_) (fun c300 => ?_)
                        · refine lv_iload_n hx hb dX8_goes_172 rfl (lv_at hl 0 rfl) ?_
                          refine ta_iast C hP hD hS 2 rfl (i := 4) (v := 2) (by omega) dX8_goes_173 (fun H locs hP hD hS => ?_)
                          have hP : va_P D vwCl [(z 0, .inr (8, [.ref (z 1), .int (nI ty), .ref (z 2), .ref (z 3), .ref (z 4), .ref (z 5), .int (nI kn), .ref (z 6), .ref (z 7), .ref (z 8), .int (nI no), .int (nI at_), .int (nI so), .int (nI sr), .int (nI va), .ref (z 9)])), (z 2, .inl (k.1 0, 23, .inl (ta_e t))), (z 4, .inl (k.1 0, 66, .inl (ta_e (ta_u (ta_u g2 5 ((g2 5) - 1)) 4 2))))] H := hP
                          have hD : va_D A [(z 0, .inr (8, [.ref (z 1), .int (nI ty), .ref (z 2), .ref (z 3), .ref (z 4), .ref (z 5), .int (nI kn), .ref (z 6), .ref (z 7), .ref (z 8), .int (nI no), .int (nI at_), .int (nI so), .int (nI sr), .int (nI va), .ref (z 9)])), (z 2, .inl (k.1 0, 23, .inl (ta_e t))), (z 4, .inl (k.1 0, 66, .inl (ta_e (ta_u (ta_u g2 5 ((g2 5) - 1)) 4 2))))] := hD
                          obtain ⟨g3, hg3⟩ : ∃ z, z = ta_u (ta_u g2 5 ((g2 5) - 1)) 4 2 := ⟨_, rfl⟩
                          rw [← hg3] at hP hD
                          have edo : tg_do t g1 1 = g3 := by unfold tg_do; rw [hg3, eact, k5, if_neg (by omega), h4]
                          have ego : tg_go t g = tg_wind t g3 1 := by unfold tg_go; rw [epre, ← ha, if_neg (by omega), edo]
                          have k1 : g3 1 = g1 1 := by rw [← edo]; exact tg_do_k (by omega) e2 (by omega) (by omega) (by omega) (by omega) (by omega)
                          have hP : va_P D vwCl [(z 0, .inr (8, [.ref (z 1), .int (nI ty), .ref (z 2), .ref (z 3), .ref (z 4), .ref (z 5), .int (nI kn), .ref (z 6), .ref (z 7), .ref (z 8), .int (nI no), .int (nI at_), .int (nI so), .int (nI sr), .int (nI va), .ref (z 9)])), (z 2, .inl (k.1 0, 23, .inl (ta_e t))), (z 4, .inl (k.1 0, 66, .inl (ta_e g3)))] H := hP
                          have hD : va_D A [(z 0, .inr (8, [.ref (z 1), .int (nI ty), .ref (z 2), .ref (z 3), .ref (z 4), .ref (z 5), .int (nI kn), .ref (z 6), .ref (z 7), .ref (z 8), .int (nI no), .int (nI at_), .int (nI so), .int (nI sr), .int (nI va), .ref (z 9)])), (z 2, .inl (k.1 0, 23, .inl (ta_e t))), (z 4, .inl (k.1 0, 66, .inl (ta_e g3)))] := hD
                          refine lv_aload_n hx hb dX8_goes_174 rfl (lv_at hl 3 rfl) ?_
                          refine ta_get C hP 0 inlX8 rfl rfl 4 (by decide) tw_128 rfl dX8_goes_175 ?_
                          refine ta_iconst C 1 dX8_goes_178 (by decide) ?_
                          refine lv_dup2_11 hx hb dX8_goes_179 rfl rfl ?_
                          refine ta_iald C hP 2 rfl (i := 1) (by omega) dX8_goes_180 ?_
                          refine ta_iconst C 1 dX8_goes_181 (by decide) ?_
                          refine ta_iadd C (a := g3 1) (b := 1) dX8_goes_182 ?_
                          refine ta_iast C hP hD hS 2 rfl (i := 1) (v := (g3 1) + 1) (by omega) dX8_goes_183 (fun H locs hP hD hS => ?_)
                          have hP : va_P D vwCl [(z 0, .inr (8, [.ref (z 1), .int (nI ty), .ref (z 2), .ref (z 3), .ref (z 4), .ref (z 5), .int (nI kn), .ref (z 6), .ref (z 7), .ref (z 8), .int (nI no), .int (nI at_), .int (nI so), .int (nI sr), .int (nI va), .ref (z 9)])), (z 2, .inl (k.1 0, 23, .inl (ta_e t))), (z 4, .inl (k.1 0, 66, .inl (ta_e (ta_u g3 1 ((g3 1) + 1)))))] H := hP
                          have hD : va_D A [(z 0, .inr (8, [.ref (z 1), .int (nI ty), .ref (z 2), .ref (z 3), .ref (z 4), .ref (z 5), .int (nI kn), .ref (z 6), .ref (z 7), .ref (z 8), .int (nI no), .int (nI at_), .int (nI so), .int (nI sr), .int (nI va), .ref (z 9)])), (z 2, .inl (k.1 0, 23, .inl (ta_e t))), (z 4, .inl (k.1 0, 66, .inl (ta_e (ta_u g3 1 ((g3 1) + 1)))))] := hD
                          refine lv_aload_n hx hb dX8_goes_184 rfl (lv_at hl 3 rfl) ?_
                          refine ta_get C hP 0 inlX8 rfl rfl 4 (by decide) tw_128 rfl dX8_goes_185 ?_
                          refine ta_iconst C 1 dX8_goes_188 (by decide) ?_
                          refine ta_iald C hP 2 rfl (i := 1) (by omega) dX8_goes_189 ?_
                          refine ta_nv (y := (g3 1) + 1) ta_us ?_
                          refine lv_aload_n hx hb dX8_goes_190 rfl (lv_at hl 3 rfl) ?_
                          refine ta_get C hP 0 inlX8 rfl rfl 2 (by decide) tw_126 rfl dX8_goes_191 ?_
                          refine ta_iconst C 2 dX8_goes_194 (by decide) ?_
                          refine ta_iald C hP 1 rfl (i := 2) (by omega) dX8_goes_195 ?_
                          refine ta_cne C (a := (g3 1) + 1) (b := t 2) (tgt := 216) (by omega) (by omega) dX8_goes_196 (by decide) (fun c301 => ?_) (fun c301 => ?_)
                          · refine lv_iload_n hx hb dX8_goes_216 rfl (lv_at hl 1 rfl) ?_
                            have e : ta_u g3 1 ((g3 1) + 1) = tg_go t g := by rw [ego]; unfold tg_wind; rw [if_neg (by omega)]
                            have ekn : nI 4294967295 = nI (tg_kn g) := by unfold tg_kn; rw [epre, ← ha]; first | rw [if_pos (by omega)] | rw [if_neg (by omega)]
                            rw [e] at hP hD
                            exact ret _ () dX8_goes_217 rfl ekn hP hD hS
                          · refine lv_aload_n hx hb dX8_goes_199 rfl (lv_at hl 3 rfl) ?_
                            refine ta_get C hP 0 inlX8 rfl rfl 4 (by decide) tw_128 rfl dX8_goes_200 ?_
                            refine ta_iconst C 1 dX8_goes_203 (by decide) ?_
                            refine ta_iconst C 0 dX8_goes_204 (by decide) ?_
                            refine ta_iast C hP hD hS 2 rfl (i := 1) (v := 0) (by omega) dX8_goes_205 (fun H locs hP hD hS => ?_)
                            have hP : va_P D vwCl [(z 0, .inr (8, [.ref (z 1), .int (nI ty), .ref (z 2), .ref (z 3), .ref (z 4), .ref (z 5), .int (nI kn), .ref (z 6), .ref (z 7), .ref (z 8), .int (nI no), .int (nI at_), .int (nI so), .int (nI sr), .int (nI va), .ref (z 9)])), (z 2, .inl (k.1 0, 23, .inl (ta_e t))), (z 4, .inl (k.1 0, 66, .inl (ta_e (ta_u (ta_u g3 1 ((g3 1) + 1)) 1 0))))] H := hP
                            have hD : va_D A [(z 0, .inr (8, [.ref (z 1), .int (nI ty), .ref (z 2), .ref (z 3), .ref (z 4), .ref (z 5), .int (nI kn), .ref (z 6), .ref (z 7), .ref (z 8), .int (nI no), .int (nI at_), .int (nI so), .int (nI sr), .int (nI va), .ref (z 9)])), (z 2, .inl (k.1 0, 23, .inl (ta_e t))), (z 4, .inl (k.1 0, 66, .inl (ta_e (ta_u (ta_u g3 1 ((g3 1) + 1)) 1 0))))] := hD
                            refine lv_aload_n hx hb dX8_goes_206 rfl (lv_at hl 3 rfl) ?_
                            refine ta_get C hP 0 inlX8 rfl rfl 4 (by decide) tw_128 rfl dX8_goes_207 ?_
                            refine ta_iconst C 0 dX8_goes_210 (by decide) ?_
                            refine lv_dup2_11 hx hb dX8_goes_211 rfl rfl ?_
                            refine ta_iald C hP 2 rfl (i := 0) (by omega) dX8_goes_212 ?_
                            refine ta_nv (y := (ta_u g3 1 ((g3 1) + 1)) 0) (ta_un (by decide)) ?_
                            refine ta_nv (y := g3 0) (ta_un (by decide)) ?_
                            refine ta_iconst C 1 dX8_goes_213 (by decide) ?_
                            refine ta_iadd C (a := g3 0) (b := 1) dX8_goes_214 ?_
                            refine ta_iast C hP hD hS 2 rfl (i := 0) (v := (g3 0) + 1) (by omega) dX8_goes_215 (fun H locs hP hD hS => ?_)
                            have hP : va_P D vwCl [(z 0, .inr (8, [.ref (z 1), .int (nI ty), .ref (z 2), .ref (z 3), .ref (z 4), .ref (z 5), .int (nI kn), .ref (z 6), .ref (z 7), .ref (z 8), .int (nI no), .int (nI at_), .int (nI so), .int (nI sr), .int (nI va), .ref (z 9)])), (z 2, .inl (k.1 0, 23, .inl (ta_e t))), (z 4, .inl (k.1 0, 66, .inl (ta_e (ta_u (ta_u (ta_u g3 1 ((g3 1) + 1)) 1 0) 0 ((g3 0) + 1)))))] H := hP
                            have hD : va_D A [(z 0, .inr (8, [.ref (z 1), .int (nI ty), .ref (z 2), .ref (z 3), .ref (z 4), .ref (z 5), .int (nI kn), .ref (z 6), .ref (z 7), .ref (z 8), .int (nI no), .int (nI at_), .int (nI so), .int (nI sr), .int (nI va), .ref (z 9)])), (z 2, .inl (k.1 0, 23, .inl (ta_e t))), (z 4, .inl (k.1 0, 66, .inl (ta_e (ta_u (ta_u (ta_u g3 1 ((g3 1) + 1)) 1 0) 0 ((g3 0) + 1)))))] := hD
                            refine lv_iload_n hx hb dX8_goes_216 rfl (lv_at hl 1 rfl) ?_
                            have e : ta_u (ta_u (ta_u g3 1 ((g3 1) + 1)) 1 0) 0 ((g3 0) + 1) = tg_go t g := by rw [ego]; unfold tg_wind; rw [if_pos (by omega), ta_uu]
                            have ekn : nI 4294967295 = nI (tg_kn g) := by unfold tg_kn; rw [epre, ← ha]; first | rw [if_pos (by omega)] | rw [if_neg (by omega)]
                            rw [e] at hP hD
                            exact ret _ () dX8_goes_217 rfl ekn hP hD hS
                        · refine ta_iconst C 4294967295 dX8_goes_168 (by decide) ?_
                          refine lv_goto (tgt := 173) hx hb dX8_goes_169 (by decide) ?_
                          refine ta_iast C hP hD hS 2 rfl (i := 4) (v := 4294967295) (by omega) dX8_goes_173 (fun H locs hP hD hS => ?_)
                          have hP : va_P D vwCl [(z 0, .inr (8, [.ref (z 1), .int (nI ty), .ref (z 2), .ref (z 3), .ref (z 4), .ref (z 5), .int (nI kn), .ref (z 6), .ref (z 7), .ref (z 8), .int (nI no), .int (nI at_), .int (nI so), .int (nI sr), .int (nI va), .ref (z 9)])), (z 2, .inl (k.1 0, 23, .inl (ta_e t))), (z 4, .inl (k.1 0, 66, .inl (ta_e (ta_u (ta_u g2 5 ((g2 5) - 1)) 4 4294967295))))] H := hP
                          have hD : va_D A [(z 0, .inr (8, [.ref (z 1), .int (nI ty), .ref (z 2), .ref (z 3), .ref (z 4), .ref (z 5), .int (nI kn), .ref (z 6), .ref (z 7), .ref (z 8), .int (nI no), .int (nI at_), .int (nI so), .int (nI sr), .int (nI va), .ref (z 9)])), (z 2, .inl (k.1 0, 23, .inl (ta_e t))), (z 4, .inl (k.1 0, 66, .inl (ta_e (ta_u (ta_u g2 5 ((g2 5) - 1)) 4 4294967295))))] := hD
                          obtain ⟨g3, hg3⟩ : ∃ z, z = ta_u (ta_u g2 5 ((g2 5) - 1)) 4 4294967295 := ⟨_, rfl⟩
                          rw [← hg3] at hP hD
                          have edo : tg_do t g1 1 = g3 := by unfold tg_do; rw [hg3, eact, k5, if_pos (by omega)]
                          have ego : tg_go t g = tg_wind t g3 1 := by unfold tg_go; rw [epre, ← ha, if_neg (by omega), edo]
                          have k1 : g3 1 = g1 1 := by rw [← edo]; exact tg_do_k (by omega) e2 (by omega) (by omega) (by omega) (by omega) (by omega)
                          have hP : va_P D vwCl [(z 0, .inr (8, [.ref (z 1), .int (nI ty), .ref (z 2), .ref (z 3), .ref (z 4), .ref (z 5), .int (nI kn), .ref (z 6), .ref (z 7), .ref (z 8), .int (nI no), .int (nI at_), .int (nI so), .int (nI sr), .int (nI va), .ref (z 9)])), (z 2, .inl (k.1 0, 23, .inl (ta_e t))), (z 4, .inl (k.1 0, 66, .inl (ta_e g3)))] H := hP
                          have hD : va_D A [(z 0, .inr (8, [.ref (z 1), .int (nI ty), .ref (z 2), .ref (z 3), .ref (z 4), .ref (z 5), .int (nI kn), .ref (z 6), .ref (z 7), .ref (z 8), .int (nI no), .int (nI at_), .int (nI so), .int (nI sr), .int (nI va), .ref (z 9)])), (z 2, .inl (k.1 0, 23, .inl (ta_e t))), (z 4, .inl (k.1 0, 66, .inl (ta_e g3)))] := hD
                          refine lv_aload_n hx hb dX8_goes_174 rfl (lv_at hl 3 rfl) ?_
                          refine ta_get C hP 0 inlX8 rfl rfl 4 (by decide) tw_128 rfl dX8_goes_175 ?_
                          refine ta_iconst C 1 dX8_goes_178 (by decide) ?_
                          refine lv_dup2_11 hx hb dX8_goes_179 rfl rfl ?_
                          refine ta_iald C hP 2 rfl (i := 1) (by omega) dX8_goes_180 ?_
                          refine ta_iconst C 1 dX8_goes_181 (by decide) ?_
                          refine ta_iadd C (a := g3 1) (b := 1) dX8_goes_182 ?_
                          refine ta_iast C hP hD hS 2 rfl (i := 1) (v := (g3 1) + 1) (by omega) dX8_goes_183 (fun H locs hP hD hS => ?_)
                          have hP : va_P D vwCl [(z 0, .inr (8, [.ref (z 1), .int (nI ty), .ref (z 2), .ref (z 3), .ref (z 4), .ref (z 5), .int (nI kn), .ref (z 6), .ref (z 7), .ref (z 8), .int (nI no), .int (nI at_), .int (nI so), .int (nI sr), .int (nI va), .ref (z 9)])), (z 2, .inl (k.1 0, 23, .inl (ta_e t))), (z 4, .inl (k.1 0, 66, .inl (ta_e (ta_u g3 1 ((g3 1) + 1)))))] H := hP
                          have hD : va_D A [(z 0, .inr (8, [.ref (z 1), .int (nI ty), .ref (z 2), .ref (z 3), .ref (z 4), .ref (z 5), .int (nI kn), .ref (z 6), .ref (z 7), .ref (z 8), .int (nI no), .int (nI at_), .int (nI so), .int (nI sr), .int (nI va), .ref (z 9)])), (z 2, .inl (k.1 0, 23, .inl (ta_e t))), (z 4, .inl (k.1 0, 66, .inl (ta_e (ta_u g3 1 ((g3 1) + 1)))))] := hD
                          refine lv_aload_n hx hb dX8_goes_184 rfl (lv_at hl 3 rfl) ?_
                          refine ta_get C hP 0 inlX8 rfl rfl 4 (by decide) tw_128 rfl dX8_goes_185 ?_
                          refine ta_iconst C 1 dX8_goes_188 (by decide) ?_
                          refine ta_iald C hP 2 rfl (i := 1) (by omega) dX8_goes_189 ?_
                          refine ta_nv (y := (g3 1) + 1) ta_us ?_
                          refine lv_aload_n hx hb dX8_goes_190 rfl (lv_at hl 3 rfl) ?_
                          refine ta_get C hP 0 inlX8 rfl rfl 2 (by decide) tw_126 rfl dX8_goes_191 ?_
                          refine ta_iconst C 2 dX8_goes_194 (by decide) ?_
                          refine ta_iald C hP 1 rfl (i := 2) (by omega) dX8_goes_195 ?_
                          refine ta_cne C (a := (g3 1) + 1) (b := t 2) (tgt := 216) (by omega) (by omega) dX8_goes_196 (by decide) (fun c302 => ?_) (fun c302 => ?_)
                          · refine lv_iload_n hx hb dX8_goes_216 rfl (lv_at hl 1 rfl) ?_
                            have e : ta_u g3 1 ((g3 1) + 1) = tg_go t g := by rw [ego]; unfold tg_wind; rw [if_neg (by omega)]
                            have ekn : nI 4294967295 = nI (tg_kn g) := by unfold tg_kn; rw [epre, ← ha]; first | rw [if_pos (by omega)] | rw [if_neg (by omega)]
                            rw [e] at hP hD
                            exact ret _ () dX8_goes_217 rfl ekn hP hD hS
                          · refine lv_aload_n hx hb dX8_goes_199 rfl (lv_at hl 3 rfl) ?_
                            refine ta_get C hP 0 inlX8 rfl rfl 4 (by decide) tw_128 rfl dX8_goes_200 ?_
                            refine ta_iconst C 1 dX8_goes_203 (by decide) ?_
                            refine ta_iconst C 0 dX8_goes_204 (by decide) ?_
                            refine ta_iast C hP hD hS 2 rfl (i := 1) (v := 0) (by omega) dX8_goes_205 (fun H locs hP hD hS => ?_)
                            have hP : va_P D vwCl [(z 0, .inr (8, [.ref (z 1), .int (nI ty), .ref (z 2), .ref (z 3), .ref (z 4), .ref (z 5), .int (nI kn), .ref (z 6), .ref (z 7), .ref (z 8), .int (nI no), .int (nI at_), .int (nI so), .int (nI sr), .int (nI va), .ref (z 9)])), (z 2, .inl (k.1 0, 23, .inl (ta_e t))), (z 4, .inl (k.1 0, 66, .inl (ta_e (ta_u (ta_u g3 1 ((g3 1) + 1)) 1 0))))] H := hP
                            have hD : va_D A [(z 0, .inr (8, [.ref (z 1), .int (nI ty), .ref (z 2), .ref (z 3), .ref (z 4), .ref (z 5), .int (nI kn), .ref (z 6), .ref (z 7), .ref (z 8), .int (nI no), .int (nI at_), .int (nI so), .int (nI sr), .int (nI va), .ref (z 9)])), (z 2, .inl (k.1 0, 23, .inl (ta_e t))), (z 4, .inl (k.1 0, 66, .inl (ta_e (ta_u (ta_u g3 1 ((g3 1) + 1)) 1 0))))] := hD
                            refine lv_aload_n hx hb dX8_goes_206 rfl (lv_at hl 3 rfl) ?_
                            refine ta_get C hP 0 inlX8 rfl rfl 4 (by decide) tw_128 rfl dX8_goes_207 ?_
                            refine ta_iconst C 0 dX8_goes_210 (by decide) ?_
                            refine lv_dup2_11 hx hb dX8_goes_211 rfl rfl ?_
                            refine ta_iald C hP 2 rfl (i := 0) (by omega) dX8_goes_212 ?_
                            refine ta_nv (y := (ta_u g3 1 ((g3 1) + 1)) 0) (ta_un (by decide)) ?_
                            refine ta_nv (y := g3 0) (ta_un (by decide)) ?_
                            refine ta_iconst C 1 dX8_goes_213 (by decide) ?_
                            refine ta_iadd C (a := g3 0) (b := 1) dX8_goes_214 ?_
                            refine ta_iast C hP hD hS 2 rfl (i := 0) (v := (g3 0) + 1) (by omega) dX8_goes_215 (fun H locs hP hD hS => ?_)
                            have hP : va_P D vwCl [(z 0, .inr (8, [.ref (z 1), .int (nI ty), .ref (z 2), .ref (z 3), .ref (z 4), .ref (z 5), .int (nI kn), .ref (z 6), .ref (z 7), .ref (z 8), .int (nI no), .int (nI at_), .int (nI so), .int (nI sr), .int (nI va), .ref (z 9)])), (z 2, .inl (k.1 0, 23, .inl (ta_e t))), (z 4, .inl (k.1 0, 66, .inl (ta_e (ta_u (ta_u (ta_u g3 1 ((g3 1) + 1)) 1 0) 0 ((g3 0) + 1)))))] H := hP
                            have hD : va_D A [(z 0, .inr (8, [.ref (z 1), .int (nI ty), .ref (z 2), .ref (z 3), .ref (z 4), .ref (z 5), .int (nI kn), .ref (z 6), .ref (z 7), .ref (z 8), .int (nI no), .int (nI at_), .int (nI so), .int (nI sr), .int (nI va), .ref (z 9)])), (z 2, .inl (k.1 0, 23, .inl (ta_e t))), (z 4, .inl (k.1 0, 66, .inl (ta_e (ta_u (ta_u (ta_u g3 1 ((g3 1) + 1)) 1 0) 0 ((g3 0) + 1)))))] := hD
                            refine lv_iload_n hx hb dX8_goes_216 rfl (lv_at hl 1 rfl) ?_
                            have e : ta_u (ta_u (ta_u g3 1 ((g3 1) + 1)) 1 0) 0 ((g3 0) + 1) = tg_go t g := by rw [ego]; unfold tg_wind; rw [if_pos (by omega), ta_uu]
                            have ekn : nI 4294967295 = nI (tg_kn g) := by unfold tg_kn; rw [epre, ← ha]; first | rw [if_pos (by omega)] | rw [if_neg (by omega)]
                            rw [e] at hP hD
                            exact ret _ () dX8_goes_217 rfl ekn hP hD hS
                      · exact absurd c299 (by decide)
                    · exact absurd c298 (by decide)
                  · exact absurd c297 (by decide)
        · refine ta_nv (y := 3) h4 ?_
          refine lv_istore_n (lv' := [(3, .int (nI 3)), (2, .int (nI 4294967295)), (1, .int (nI 1)), (0, .ref (z 0))]) hx hb dX8_goes_44 rfl hl (by decide) rfl (fun ls hl => ?_)
          refine lv_iload_n hx hb dX8_goes_45 rfl (lv_at hl 0 rfl) ?_
          refine ta_iconst C 4294967295 dX8_goes_46 (by decide) ?_
          refine lv_icmp_eq (tgt := 174) hx hb dX8_goes_47 (by decide) (fun c303 => ?_) (fun c303 => ?_)
          · exact absurd c303 (by decide)
          · refine lv_iload_n hx hb dX8_goes_50 rfl (lv_at hl 0 rfl) ?_
            refine lv_if_eq (tgt := 59) hx hb dX8_goes_51 (by decide) (fun c304 => ?_) (fun c304 => ?_)
            · exact absurd c304 (by decide)
            · refine lv_iload_n hx hb dX8_goes_54 rfl (lv_at hl 0 rfl) ?_
              refine ta_iconst C 2 dX8_goes_55 (by decide) ?_
              refine lv_icmp_ne (tgt := 69) hx hb dX8_goes_56 (by decide) (fun c305 => ?_) (fun c305 => ?_)
              · refine lv_iload_n hx hb dX8_goes_69 rfl (lv_at hl 0 rfl) ?_
                refine ta_iconst C 2 dX8_goes_70 (by decide) ?_
                refine lv_icmp_ne (tgt := 84) hx hb dX8_goes_71 (by decide) (fun c306 => ?_) (fun c306 => ?_)
                · refine lv_iload_n hx hb dX8_goes_84 rfl (lv_at hl 0 rfl) ?_
                  refine ta_iconst C 1 dX8_goes_85 (by decide) ?_
                  refine lv_icmp_ne (tgt := 103) hx hb dX8_goes_86 (by decide) (fun c307 => ?_) (fun c307 => ?_)
                  · refine lv_iload_n hx hb dX8_goes_103 rfl (lv_at hl 0 rfl) ?_
                    refine ta_iconst C 3 dX8_goes_104 (by decide) ?_
                    refine lv_icmp_ne (tgt := 124) hx hb dX8_goes_105 (by decide) (fun c308 => ?_) (fun c308 => ?_)
                    · exact absurd c308 (by decide)
                    · refine lv_aload_n hx hb dX8_goes_108 rfl (lv_at hl 3 rfl) ?_
                      refine ta_get C hP 0 inlX8 rfl rfl 4 (by decide) tw_128 rfl dX8_goes_109 ?_
                      refine ta_iconst C 3 dX8_goes_112 (by decide) ?_
                      refine lv_aload_n hx hb dX8_goes_113 rfl (lv_at hl 3 rfl) ?_
                      refine ta_get C hP 0 inlX8 rfl rfl 4 (by decide) tw_128 rfl dX8_goes_114 ?_
                      refine ta_iconst C 3 dX8_goes_117 (by decide) ?_
                      refine ta_iald C hP 2 rfl (i := 3) (by omega) dX8_goes_118 ?_
                      refine ta_iconst C 1 dX8_goes_119 (by decide) ?_
                      refine ta_iadd C (a := g1 3) (b := 1) dX8_goes_120 ?_
                      refine ta_iconst C 4 dX8_goes_121 (by decide) ?_
                      refine ta_irem C (a := (g1 3) + 1) (b := 4) (by omega) (by omega) (by omega) dX8_goes_122 ?_
                      refine ta_iast C hP hD hS 2 rfl (i := 3) (v := ((g1 3) + 1) % 4) (by omega) dX8_goes_123 (fun H locs hP hD hS => ?_)
                      have hP : va_P D vwCl [(z 0, .inr (8, [.ref (z 1), .int (nI ty), .ref (z 2), .ref (z 3), .ref (z 4), .ref (z 5), .int (nI kn), .ref (z 6), .ref (z 7), .ref (z 8), .int (nI no), .int (nI at_), .int (nI so), .int (nI sr), .int (nI va), .ref (z 9)])), (z 2, .inl (k.1 0, 23, .inl (ta_e t))), (z 4, .inl (k.1 0, 66, .inl (ta_e (ta_u g1 3 (((g1 3) + 1) % 4)))))] H := hP
                      have hD : va_D A [(z 0, .inr (8, [.ref (z 1), .int (nI ty), .ref (z 2), .ref (z 3), .ref (z 4), .ref (z 5), .int (nI kn), .ref (z 6), .ref (z 7), .ref (z 8), .int (nI no), .int (nI at_), .int (nI so), .int (nI sr), .int (nI va), .ref (z 9)])), (z 2, .inl (k.1 0, 23, .inl (ta_e t))), (z 4, .inl (k.1 0, 66, .inl (ta_e (ta_u g1 3 (((g1 3) + 1) % 4)))))] := hD
                      refine lv_iload_n hx hb dX8_goes_124 rfl (lv_at hl 0 rfl) ?_
                      refine ta_iconst C 4 dX8_goes_125 (by decide) ?_
                      refine lv_icmp_ne (tgt := 144) hx hb dX8_goes_126 (by decide) (fun c309 => ?_) (fun c309 => ?_)
                      · obtain ⟨g2, hg2⟩ : ∃ z, z = ta_u g1 3 (((g1 3) + 1) % 4) := ⟨_, rfl⟩
                        rw [← hg2] at hP hD
                        have eact : tg_act t g1 1 = g2 := by rw [hg2]; unfold tg_act; rw [if_neg (by omega), if_neg (by omega), if_neg (by omega), if_pos h4]
                        have k5 : g2 5 = g1 5 := by rw [← eact]; exact tg_act_k (by omega) e2 (by omega) (by omega) (by omega)
                        have hP : va_P D vwCl [(z 0, .inr (8, [.ref (z 1), .int (nI ty), .ref (z 2), .ref (z 3), .ref (z 4), .ref (z 5), .int (nI kn), .ref (z 6), .ref (z 7), .ref (z 8), .int (nI no), .int (nI at_), .int (nI so), .int (nI sr), .int (nI va), .ref (z 9)])), (z 2, .inl (k.1 0, 23, .inl (ta_e t))), (z 4, .inl (k.1 0, 66, .inl (ta_e g2)))] H := hP
                        have hD : va_D A [(z 0, .inr (8, [.ref (z 1), .int (nI ty), .ref (z 2), .ref (z 3), .ref (z 4), .ref (z 5), .int (nI kn), .ref (z 6), .ref (z 7), .ref (z 8), .int (nI no), .int (nI at_), .int (nI so), .int (nI sr), .int (nI va), .ref (z 9)])), (z 2, .inl (k.1 0, 23, .inl (ta_e t))), (z 4, .inl (k.1 0, 66, .inl (ta_e g2)))] := hD
                        refine lv_aload_n hx hb dX8_goes_144 rfl (lv_at hl 3 rfl) ?_
                        refine ta_get C hP 0 inlX8 rfl rfl 4 (by decide) tw_128 rfl dX8_goes_145 ?_
                        refine ta_iconst C 5 dX8_goes_148 (by decide) ?_
                        refine lv_dup2_11 hx hb dX8_goes_149 rfl rfl ?_
                        refine ta_iald C hP 2 rfl (i := 5) (by omega) dX8_goes_150 ?_
                        refine ta_iconst C 1 dX8_goes_151 (by decide) ?_
                        refine ta_isub C (a := g2 5) (b := 1) (by omega) dX8_goes_152 ?_
                        refine ta_iast C hP hD hS 2 rfl (i := 5) (v := (g2 5) - 1) (by omega) dX8_goes_153 (fun H locs hP hD hS => ?_)
                        have hP : va_P D vwCl [(z 0, .inr (8, [.ref (z 1), .int (nI ty), .ref (z 2), .ref (z 3), .ref (z 4), .ref (z 5), .int (nI kn), .ref (z 6), .ref (z 7), .ref (z 8), .int (nI no), .int (nI at_), .int (nI so), .int (nI sr), .int (nI va), .ref (z 9)])), (z 2, .inl (k.1 0, 23, .inl (ta_e t))), (z 4, .inl (k.1 0, 66, .inl (ta_e (ta_u g2 5 ((g2 5) - 1)))))] H := hP
                        have hD : va_D A [(z 0, .inr (8, [.ref (z 1), .int (nI ty), .ref (z 2), .ref (z 3), .ref (z 4), .ref (z 5), .int (nI kn), .ref (z 6), .ref (z 7), .ref (z 8), .int (nI no), .int (nI at_), .int (nI so), .int (nI sr), .int (nI va), .ref (z 9)])), (z 2, .inl (k.1 0, 23, .inl (ta_e t))), (z 4, .inl (k.1 0, 66, .inl (ta_e (ta_u g2 5 ((g2 5) - 1)))))] := hD
                        refine lv_aload_n hx hb dX8_goes_154 rfl (lv_at hl 3 rfl) ?_
                        refine ta_get C hP 0 inlX8 rfl rfl 4 (by decide) tw_128 rfl dX8_goes_155 ?_
                        refine ta_iconst C 4 dX8_goes_158 (by decide) ?_
                        refine lv_aload_n hx hb dX8_goes_159 rfl (lv_at hl 3 rfl) ?_
                        refine ta_get C hP 0 inlX8 rfl rfl 4 (by decide) tw_128 rfl dX8_goes_160 ?_
                        refine ta_iconst C 5 dX8_goes_163 (by decide) ?_
                        refine ta_iald C hP 2 rfl (i := 5) (by omega) dX8_goes_164 ?_
                        refine ta_nv (y := (g2 5) - 1) ta_us ?_
                        refine ta_ine C (a := (g2 5) - 1) (tgt := 172) (by omega) dX8_goes_165 (by decide) (fun c310 => ?_) (fun c310 => ?_)
                        · refine lv_iload_n hx hb dX8_goes_172 rfl (lv_at hl 0 rfl) ?_
                          refine ta_iast C hP hD hS 2 rfl (i := 4) (v := 3) (by omega) dX8_goes_173 (fun H locs hP hD hS => ?_)
                          have hP : va_P D vwCl [(z 0, .inr (8, [.ref (z 1), .int (nI ty), .ref (z 2), .ref (z 3), .ref (z 4), .ref (z 5), .int (nI kn), .ref (z 6), .ref (z 7), .ref (z 8), .int (nI no), .int (nI at_), .int (nI so), .int (nI sr), .int (nI va), .ref (z 9)])), (z 2, .inl (k.1 0, 23, .inl (ta_e t))), (z 4, .inl (k.1 0, 66, .inl (ta_e (ta_u (ta_u g2 5 ((g2 5) - 1)) 4 3))))] H := hP
                          have hD : va_D A [(z 0, .inr (8, [.ref (z 1), .int (nI ty), .ref (z 2), .ref (z 3), .ref (z 4), .ref (z 5), .int (nI kn), .ref (z 6), .ref (z 7), .ref (z 8), .int (nI no), .int (nI at_), .int (nI so), .int (nI sr), .int (nI va), .ref (z 9)])), (z 2, .inl (k.1 0, 23, .inl (ta_e t))), (z 4, .inl (k.1 0, 66, .inl (ta_e (ta_u (ta_u g2 5 ((g2 5) - 1)) 4 3))))] := hD
                          obtain ⟨g3, hg3⟩ : ∃ z, z = ta_u (ta_u g2 5 ((g2 5) - 1)) 4 3 := ⟨_, rfl⟩
                          rw [← hg3] at hP hD
                          have edo : tg_do t g1 1 = g3 := by unfold tg_do; rw [hg3, eact, k5, if_neg (by omega), h4]
                          have ego : tg_go t g = tg_wind t g3 1 := by unfold tg_go; rw [epre, ← ha, if_neg (by omega), edo]
                          have k1 : g3 1 = g1 1 := by rw [← edo]; exact tg_do_k (by omega) e2 (by omega) (by omega) (by omega) (by omega) (by omega)
                          have hP : va_P D vwCl [(z 0, .inr (8, [.ref (z 1), .int (nI ty), .ref (z 2), .ref (z 3), .ref (z 4), .ref (z 5), .int (nI kn), .ref (z 6), .ref (z 7), .ref (z 8), .int (nI no), .int (nI at_), .int (nI so), .int (nI sr), .int (nI va), .ref (z 9)])), (z 2, .inl (k.1 0, 23, .inl (ta_e t))), (z 4, .inl (k.1 0, 66, .inl (ta_e g3)))] H := hP
                          have hD : va_D A [(z 0, .inr (8, [.ref (z 1), .int (nI ty), .ref (z 2), .ref (z 3), .ref (z 4), .ref (z 5), .int (nI kn), .ref (z 6), .ref (z 7), .ref (z 8), .int (nI no), .int (nI at_), .int (nI so), .int (nI sr), .int (nI va), .ref (z 9)])), (z 2, .inl (k.1 0, 23, .inl (ta_e t))), (z 4, .inl (k.1 0, 66, .inl (ta_e g3)))] := hD
                          refine lv_aload_n hx hb dX8_goes_174 rfl (lv_at hl 3 rfl) ?_
                          refine ta_get C hP 0 inlX8 rfl rfl 4 (by decide) tw_128 rfl dX8_goes_175 ?_
                          refine ta_iconst C 1 dX8_goes_178 (by decide) ?_
                          refine lv_dup2_11 hx hb dX8_goes_179 rfl rfl ?_
                          refine ta_iald C hP 2 rfl (i := 1) (by omega) dX8_goes_180 ?_
                          refine ta_iconst C 1 dX8_goes_181 (by decide) ?_
                          refine ta_iadd C (a := g3 1) (b := 1) dX8_goes_182 ?_
                          refine ta_iast C hP hD hS 2 rfl (i := 1) (v := (g3 1) + 1) (by omega) dX8_goes_183 (fun H locs hP hD hS => ?_)
                          have hP : va_P D vwCl [(z 0, .inr (8, [.ref (z 1), .int (nI ty), .ref (z 2), .ref (z 3), .ref (z 4), .ref (z 5), .int (nI kn), .ref (z 6), .ref (z 7), .ref (z 8), .int (nI no), .int (nI at_), .int (nI so), .int (nI sr), .int (nI va), .ref (z 9)])), (z 2, .inl (k.1 0, 23, .inl (ta_e t))), (z 4, .inl (k.1 0, 66, .inl (ta_e (ta_u g3 1 ((g3 1) + 1)))))] H := hP
                          have hD : va_D A [(z 0, .inr (8, [.ref (z 1), .int (nI ty), .ref (z 2), .ref (z 3), .ref (z 4), .ref (z 5), .int (nI kn), .ref (z 6), .ref (z 7), .ref (z 8), .int (nI no), .int (nI at_), .int (nI so), .int (nI sr), .int (nI va), .ref (z 9)])), (z 2, .inl (k.1 0, 23, .inl (ta_e t))), (z 4, .inl (k.1 0, 66, .inl (ta_e (ta_u g3 1 ((g3 1) + 1)))))] := hD
                          refine lv_aload_n hx hb dX8_goes_184 rfl (lv_at hl 3 rfl) ?_
                          refine ta_get C hP 0 inlX8 rfl rfl 4 (by decide) tw_128 rfl dX8_goes_185 ?_
                          refine ta_iconst C 1 dX8_goes_188 (by decide) ?_
                          refine ta_iald C hP 2 rfl (i := 1) (by omega) dX8_goes_189 ?_
                          refine ta_nv (y := (g3 1) + 1) ta_us ?_
                          refine lv_aload_n hx hb dX8_goes_190 rfl (lv_at hl 3 rfl) ?_
                          refine ta_get C hP 0 inlX8 rfl rfl 2 (by decide) tw_126 rfl dX8_goes_191 ?_
                          refine ta_iconst C 2 dX8_goes_194 (by decide) ?_
                          refine ta_iald C hP 1 rfl (i := 2) (by omega) dX8_goes_195 ?_
                          refine ta_cne C (a := (g3 1) + 1) (b := t 2) (tgt := 216) (by omega) (by omega) dX8_goes_196 (by decide) (fun c311 => ?_) (fun c311 => ?_)
                          · refine lv_iload_n hx hb dX8_goes_216 rfl (lv_at hl 1 rfl) ?_
                            have e : ta_u g3 1 ((g3 1) + 1) = tg_go t g := by rw [ego]; unfold tg_wind; rw [if_neg (by omega)]
                            have ekn : nI 4294967295 = nI (tg_kn g) := by unfold tg_kn; rw [epre, ← ha]; first | rw [if_pos (by omega)] | rw [if_neg (by omega)]
                            rw [e] at hP hD
                            exact ret _ () dX8_goes_217 rfl ekn hP hD hS
                          · refine lv_aload_n hx hb dX8_goes_199 rfl (lv_at hl 3 rfl) ?_
                            refine ta_get C hP 0 inlX8 rfl rfl 4 (by decide) tw_128 rfl dX8_goes_200 ?_
                            refine ta_iconst C 1 dX8_goes_203 (by decide) ?_
                            refine ta_iconst C 0 dX8_goes_204 (by decide) ?_
                            refine ta_iast C hP hD hS 2 rfl (i := 1) (v := 0) (by omega) dX8_goes_205 (fun H locs hP hD hS => ?_)
                            have hP : va_P D vwCl [(z 0, .inr (8, [.ref (z 1), .int (nI ty), .ref (z 2), .ref (z 3), .ref (z 4), .ref (z 5), .int (nI kn), .ref (z 6), .ref (z 7), .ref (z 8), .int (nI no), .int (nI at_), .int (nI so), .int (nI sr), .int (nI va), .ref (z 9)])), (z 2, .inl (k.1 0, 23, .inl (ta_e t))), (z 4, .inl (k.1 0, 66, .inl (ta_e (ta_u (ta_u g3 1 ((g3 1) + 1)) 1 0))))] H := hP
                            have hD : va_D A [(z 0, .inr (8, [.ref (z 1), .int (nI ty), .ref (z 2), .ref (z 3), .ref (z 4), .ref (z 5), .int (nI kn), .ref (z 6), .ref (z 7), .ref (z 8), .int (nI no), .int (nI at_), .int (nI so), .int (nI sr), .int (nI va), .ref (z 9)])), (z 2, .inl (k.1 0, 23, .inl (ta_e t))), (z 4, .inl (k.1 0, 66, .inl (ta_e (ta_u (ta_u g3 1 ((g3 1) + 1)) 1 0))))] := hD
                            refine lv_aload_n hx hb dX8_goes_206 rfl (lv_at hl 3 rfl) ?_
                            refine ta_get C hP 0 inlX8 rfl rfl 4 (by decide) tw_128 rfl dX8_goes_207 ?_
                            refine ta_iconst C 0 dX8_goes_210 (by decide) ?_
                            refine lv_dup2_11 hx hb dX8_goes_211 rfl rfl ?_
                            refine ta_iald C hP 2 rfl (i := 0) (by omega) dX8_goes_212 ?_
                            refine ta_nv (y := (ta_u g3 1 ((g3 1) + 1)) 0) (ta_un (by decide)) ?_
                            refine ta_nv (y := g3 0) (ta_un (by decide)) ?_
                            refine ta_iconst C 1 dX8_goes_213 (by decide) ?_
                            refine ta_iadd C (a := g3 0) (b := 1) dX8_goes_214 ?_
                            refine ta_iast C hP hD hS 2 rfl (i := 0) (v := (g3 0) + 1) (by omega) dX8_goes_215 (fun H locs hP hD hS => ?_)
                            have hP : va_P D vwCl [(z 0, .inr (8, [.ref (z 1), .int (nI ty), .ref (z 2), .ref (z 3), .ref (z 4), .ref (z 5), .int (nI kn), .ref (z 6), .ref (z 7), .ref (z 8), .int (nI no), .int (nI at_), .int (nI so), .int (nI sr), .int (nI va), .ref (z 9)])), (z 2, .inl (k.1 0, 23, .inl (ta_e t))), (z 4, .inl (k.1 0, 66, .inl (ta_e (ta_u (ta_u (ta_u g3 1 ((g3 1) + 1)) 1 0) 0 ((g3 0) + 1)))))] H := hP
                            have hD : va_D A [(z 0, .inr (8, [.ref (z 1), .int (nI ty), .ref (z 2), .ref (z 3), .ref (z 4), .ref (z 5), .int (nI kn), .ref (z 6), .ref (z 7), .ref (z 8), .int (nI no), .int (nI at_), .int (nI so), .int (nI sr), .int (nI va), .ref (z 9)])), (z 2, .inl (k.1 0, 23, .inl (ta_e t))), (z 4, .inl (k.1 0, 66, .inl (ta_e (ta_u (ta_u (ta_u g3 1 ((g3 1) + 1)) 1 0) 0 ((g3 0) + 1)))))] := hD
                            refine lv_iload_n hx hb dX8_goes_216 rfl (lv_at hl 1 rfl) ?_
                            have e : ta_u (ta_u (ta_u g3 1 ((g3 1) + 1)) 1 0) 0 ((g3 0) + 1) = tg_go t g := by rw [ego]; unfold tg_wind; rw [if_pos (by omega), ta_uu]
                            have ekn : nI 4294967295 = nI (tg_kn g) := by unfold tg_kn; rw [epre, ← ha]; first | rw [if_pos (by omega)] | rw [if_neg (by omega)]
                            rw [e] at hP hD
                            exact ret _ () dX8_goes_217 rfl ekn hP hD hS
                        · refine ta_iconst C 4294967295 dX8_goes_168 (by decide) ?_
                          refine lv_goto (tgt := 173) hx hb dX8_goes_169 (by decide) ?_
                          refine ta_iast C hP hD hS 2 rfl (i := 4) (v := 4294967295) (by omega) dX8_goes_173 (fun H locs hP hD hS => ?_)
                          have hP : va_P D vwCl [(z 0, .inr (8, [.ref (z 1), .int (nI ty), .ref (z 2), .ref (z 3), .ref (z 4), .ref (z 5), .int (nI kn), .ref (z 6), .ref (z 7), .ref (z 8), .int (nI no), .int (nI at_), .int (nI so), .int (nI sr), .int (nI va), .ref (z 9)])), (z 2, .inl (k.1 0, 23, .inl (ta_e t))), (z 4, .inl (k.1 0, 66, .inl (ta_e (ta_u (ta_u g2 5 ((g2 5) - 1)) 4 4294967295))))] H := hP
                          have hD : va_D A [(z 0, .inr (8, [.ref (z 1), .int (nI ty), .ref (z 2), .ref (z 3), .ref (z 4), .ref (z 5), .int (nI kn), .ref (z 6), .ref (z 7), .ref (z 8), .int (nI no), .int (nI at_), .int (nI so), .int (nI sr), .int (nI va), .ref (z 9)])), (z 2, .inl (k.1 0, 23, .inl (ta_e t))), (z 4, .inl (k.1 0, 66, .inl (ta_e (ta_u (ta_u g2 5 ((g2 5) - 1)) 4 4294967295))))] := hD
                          obtain ⟨g3, hg3⟩ : ∃ z, z = ta_u (ta_u g2 5 ((g2 5) - 1)) 4 4294967295 := ⟨_, rfl⟩
                          rw [← hg3] at hP hD
                          have edo : tg_do t g1 1 = g3 := by unfold tg_do; rw [hg3, eact, k5, if_pos (by omega)]
                          have ego : tg_go t g = tg_wind t g3 1 := by unfold tg_go; rw [epre, ← ha, if_neg (by omega), edo]
                          have k1 : g3 1 = g1 1 := by rw [← edo]; exact tg_do_k (by omega) e2 (by omega) (by omega) (by omega) (by omega) (by omega)
                          have hP : va_P D vwCl [(z 0, .inr (8, [.ref (z 1), .int (nI ty), .ref (z 2), .ref (z 3), .ref (z 4), .ref (z 5), .int (nI kn), .ref (z 6), .ref (z 7), .ref (z 8), .int (nI no), .int (nI at_), .int (nI so), .int (nI sr), .int (nI va), .ref (z 9)])), (z 2, .inl (k.1 0, 23, .inl (ta_e t))), (z 4, .inl (k.1 0, 66, .inl (ta_e g3)))] H := hP
                          have hD : va_D A [(z 0, .inr (8, [.ref (z 1), .int (nI ty), .ref (z 2), .ref (z 3), .ref (z 4), .ref (z 5), .int (nI kn), .ref (z 6), .ref (z 7), .ref (z 8), .int (nI no), .int (nI at_), .int (nI so), .int (nI sr), .int (nI va), .ref (z 9)])), (z 2, .inl (k.1 0, 23, .inl (ta_e t))), (z 4, .inl (k.1 0, 66, .inl (ta_e g3)))] := hD
                          refine lv_aload_n hx hb dX8_goes_174 rfl (lv_at hl 3 rfl) ?_
                          refine ta_get C hP 0 inlX8 rfl rfl 4 (by decide) tw_128 rfl dX8_goes_175 ?_
                          refine ta_iconst C 1 dX8_goes_178 (by decide) ?_
                          refine lv_dup2_11 hx hb dX8_goes_179 rfl rfl ?_
                          refine ta_iald C hP 2 rfl (i := 1) (by omega) dX8_goes_180 ?_
                          refine ta_iconst C 1 dX8_goes_181 (by decide) ?_
                          refine ta_iadd C (a := g3 1) (b := 1) dX8_goes_182 ?_
                          refine ta_iast C hP hD hS 2 rfl (i := 1) (v := (g3 1) + 1) (by omega) dX8_goes_183 (fun H locs hP hD hS => ?_)
                          have hP : va_P D vwCl [(z 0, .inr (8, [.ref (z 1), .int (nI ty), .ref (z 2), .ref (z 3), .ref (z 4), .ref (z 5), .int (nI kn), .ref (z 6), .ref (z 7), .ref (z 8), .int (nI no), .int (nI at_), .int (nI so), .int (nI sr), .int (nI va), .ref (z 9)])), (z 2, .inl (k.1 0, 23, .inl (ta_e t))), (z 4, .inl (k.1 0, 66, .inl (ta_e (ta_u g3 1 ((g3 1) + 1)))))] H := hP
                          have hD : va_D A [(z 0, .inr (8, [.ref (z 1), .int (nI ty), .ref (z 2), .ref (z 3), .ref (z 4), .ref (z 5), .int (nI kn), .ref (z 6), .ref (z 7), .ref (z 8), .int (nI no), .int (nI at_), .int (nI so), .int (nI sr), .int (nI va), .ref (z 9)])), (z 2, .inl (k.1 0, 23, .inl (ta_e t))), (z 4, .inl (k.1 0, 66, .inl (ta_e (ta_u g3 1 ((g3 1) + 1)))))] := hD
                          refine lv_aload_n hx hb dX8_goes_184 rfl (lv_at hl 3 rfl) ?_
                          refine ta_get C hP 0 inlX8 rfl rfl 4 (by decide) tw_128 rfl dX8_goes_185 ?_
                          refine ta_iconst C 1 dX8_goes_188 (by decide) ?_
                          refine ta_iald C hP 2 rfl (i := 1) (by omega) dX8_goes_189 ?_
                          refine ta_nv (y := (g3 1) + 1) ta_us ?_
                          refine lv_aload_n hx hb dX8_goes_190 rfl (lv_at hl 3 rfl) ?_
                          refine ta_get C hP 0 inlX8 rfl rfl 2 (by decide) tw_126 rfl dX8_goes_191 ?_
                          refine ta_iconst C 2 dX8_goes_194 (by decide) ?_
                          refine ta_iald C hP 1 rfl (i := 2) (by omega) dX8_goes_195 ?_
                          refine ta_cne C (a := (g3 1) + 1) (b := t 2) (tgt := 216) (by omega) (by omega) dX8_goes_196 (by decide) (fun c312 => ?_) (fun c312 => ?_)
                          · refine lv_iload_n hx hb dX8_goes_216 rfl (lv_at hl 1 rfl) ?_
                            have e : ta_u g3 1 ((g3 1) + 1) = tg_go t g := by rw [ego]; unfold tg_wind; rw [if_neg (by omega)]
                            have ekn : nI 4294967295 = nI (tg_kn g) := by unfold tg_kn; rw [epre, ← ha]; first | rw [if_pos (by omega)] | rw [if_neg (by omega)]
                            rw [e] at hP hD
                            exact ret _ () dX8_goes_217 rfl ekn hP hD hS
                          · refine lv_aload_n hx hb dX8_goes_199 rfl (lv_at hl 3 rfl) ?_
                            refine ta_get C hP 0 inlX8 rfl rfl 4 (by decide) tw_128 rfl dX8_goes_200 ?_
                            refine ta_iconst C 1 dX8_goes_203 (by decide) ?_
                            refine ta_iconst C 0 dX8_goes_204 (by decide) ?_
                            refine ta_iast C hP hD hS 2 rfl (i := 1) (v := 0) (by omega) dX8_goes_205 (fun H locs hP hD hS => ?_)
                            have hP : va_P D vwCl [(z 0, .inr (8, [.ref (z 1), .int (nI ty), .ref (z 2), .ref (z 3), .ref (z 4), .ref (z 5), .int (nI kn), .ref (z 6), .ref (z 7), .ref (z 8), .int (nI no), .int (nI at_), .int (nI so), .int (nI sr), .int (nI va), .ref (z 9)])), (z 2, .inl (k.1 0, 23, .inl (ta_e t))), (z 4, .inl (k.1 0, 66, .inl (ta_e (ta_u (ta_u g3 1 ((g3 1) + 1)) 1 0))))] H := hP
                            have hD : va_D A [(z 0, .inr (8, [.ref (z 1), .int (nI ty), .ref (z 2), .ref (z 3), .ref (z 4), .ref (z 5), .int (nI kn), .ref (z 6), .ref (z 7), .ref (z 8), .int (nI no), .int (nI at_), .int (nI so), .int (nI sr), .int (nI va), .ref (z 9)])), (z 2, .inl (k.1 0, 23, .inl (ta_e t))), (z 4, .inl (k.1 0, 66, .inl (ta_e (ta_u (ta_u g3 1 ((g3 1) + 1)) 1 0))))] := hD
                            refine lv_aload_n hx hb dX8_goes_206 rfl (lv_at hl 3 rfl) ?_
                            refine ta_get C hP 0 inlX8 rfl rfl 4 (by decide) tw_128 rfl dX8_goes_207 ?_
                            refine ta_iconst C 0 dX8_goes_210 (by decide) ?_
                            refine lv_dup2_11 hx hb dX8_goes_211 rfl rfl ?_
                            refine ta_iald C hP 2 rfl (i := 0) (by omega) dX8_goes_212 ?_
                            refine ta_nv (y := (ta_u g3 1 ((g3 1) + 1)) 0) (ta_un (by decide)) ?_
                            refine ta_nv (y := g3 0) (ta_un (by decide)) ?_
                            refine ta_iconst C 1 dX8_goes_213 (by decide) ?_
                            refine ta_iadd C (a := g3 0) (b := 1) dX8_goes_214 ?_
                            refine ta_iast C hP hD hS 2 rfl (i := 0) (v := (g3 0) + 1) (by omega) dX8_goes_215 (fun H locs hP hD hS => ?_)
                            have hP : va_P D vwCl [(z 0, .inr (8, [.ref (z 1), .int (nI ty), .ref (z 2), .ref (z 3), .ref (z 4), .ref (z 5), .int (nI kn), .ref (z 6), .ref (z 7), .ref (z 8), .int (nI no), .int (nI at_), .int (nI so), .int (nI sr), .int (nI va), .ref (z 9)])), (z 2, .inl (k.1 0, 23, .inl (ta_e t))), (z 4, .inl (k.1 0, 66, .inl (ta_e (ta_u (ta_u (ta_u g3 1 ((g3 1) + 1)) 1 0) 0 ((g3 0) + 1)))))] H := hP
                            have hD : va_D A [(z 0, .inr (8, [.ref (z 1), .int (nI ty), .ref (z 2), .ref (z 3), .ref (z 4), .ref (z 5), .int (nI kn), .ref (z 6), .ref (z 7), .ref (z 8), .int (nI no), .int (nI at_), .int (nI so), .int (nI sr), .int (nI va), .ref (z 9)])), (z 2, .inl (k.1 0, 23, .inl (ta_e t))), (z 4, .inl (k.1 0, 66, .inl (ta_e (ta_u (ta_u (ta_u g3 1 ((g3 1) + 1)) 1 0) 0 ((g3 0) + 1)))))] := hD
                            refine lv_iload_n hx hb dX8_goes_216 rfl (lv_at hl 1 rfl) ?_
                            have e : ta_u (ta_u (ta_u g3 1 ((g3 1) + 1)) 1 0) 0 ((g3 0) + 1) = tg_go t g := by rw [ego]; unfold tg_wind; rw [if_pos (by omega), ta_uu]
                            have ekn : nI 4294967295 = nI (tg_kn g) := by unfold tg_kn; rw [epre, ← ha]; first | rw [if_pos (by omega)] | rw [if_neg (by omega)]
                            rw [e] at hP hD
                            exact ret _ () dX8_goes_217 rfl ekn hP hD hS
                      · exact absurd c309 (by decide)
                  · exact absurd c307 (by decide)
                · exact absurd c306 (by decide)
              · exact absurd c305 (by decide)
        · refine ta_nv (y := 4) h4 ?_
          refine lv_istore_n (lv' := [(3, .int (nI 4)), (2, .int (nI 4294967295)), (1, .int (nI 1)), (0, .ref (z 0))]) hx hb dX8_goes_44 rfl hl (by decide) rfl (fun ls hl => ?_)
          refine lv_iload_n hx hb dX8_goes_45 rfl (lv_at hl 0 rfl) ?_
          refine ta_iconst C 4294967295 dX8_goes_46 (by decide) ?_
          refine lv_icmp_eq (tgt := 174) hx hb dX8_goes_47 (by decide) (fun c313 => ?_) (fun c313 => ?_)
          · exact absurd c313 (by decide)
          · refine lv_iload_n hx hb dX8_goes_50 rfl (lv_at hl 0 rfl) ?_
            refine lv_if_eq (tgt := 59) hx hb dX8_goes_51 (by decide) (fun c314 => ?_) (fun c314 => ?_)
            · exact absurd c314 (by decide)
            · refine lv_iload_n hx hb dX8_goes_54 rfl (lv_at hl 0 rfl) ?_
              refine ta_iconst C 2 dX8_goes_55 (by decide) ?_
              refine lv_icmp_ne (tgt := 69) hx hb dX8_goes_56 (by decide) (fun c315 => ?_) (fun c315 => ?_)
              · refine lv_iload_n hx hb dX8_goes_69 rfl (lv_at hl 0 rfl) ?_
                refine ta_iconst C 2 dX8_goes_70 (by decide) ?_
                refine lv_icmp_ne (tgt := 84) hx hb dX8_goes_71 (by decide) (fun c316 => ?_) (fun c316 => ?_)
                · refine lv_iload_n hx hb dX8_goes_84 rfl (lv_at hl 0 rfl) ?_
                  refine ta_iconst C 1 dX8_goes_85 (by decide) ?_
                  refine lv_icmp_ne (tgt := 103) hx hb dX8_goes_86 (by decide) (fun c317 => ?_) (fun c317 => ?_)
                  · refine lv_iload_n hx hb dX8_goes_103 rfl (lv_at hl 0 rfl) ?_
                    refine ta_iconst C 3 dX8_goes_104 (by decide) ?_
                    refine lv_icmp_ne (tgt := 124) hx hb dX8_goes_105 (by decide) (fun c318 => ?_) (fun c318 => ?_)
                    · refine lv_iload_n hx hb dX8_goes_124 rfl (lv_at hl 0 rfl) ?_
                      refine ta_iconst C 4 dX8_goes_125 (by decide) ?_
                      refine lv_icmp_ne (tgt := 144) hx hb dX8_goes_126 (by decide) (fun c319 => ?_) (fun c319 => ?_)
                      · exact absurd c319 (by decide)
                      · refine lv_aload_n hx hb dX8_goes_129 rfl (lv_at hl 3 rfl) ?_
                        refine ta_get C hP 0 inlX8 rfl rfl 4 (by decide) tw_128 rfl dX8_goes_130 ?_
                        refine ta_bipush C 24 dX8_goes_133 (by decide) ?_
                        refine lv_iload_n hx hb dX8_goes_135 rfl (lv_at hl 2 rfl) ?_
                        refine ta_iadd C (a := 24) (b := 1) dX8_goes_136 ?_
                        refine lv_dup2_11 hx hb dX8_goes_137 rfl rfl ?_
                        refine ta_iald C hP 2 rfl (i := 25) (by omega) dX8_goes_138 ?_
                        refine ta_iconst C 1 dX8_goes_139 (by decide) ?_
                        refine ta_iadd C (a := g1 25) (b := 1) dX8_goes_140 ?_
                        refine ta_iast C hP hD hS 2 rfl (i := 25) (v := (g1 25) + 1) (by omega) dX8_goes_141 (fun H locs hP hD hS => ?_)
                        have hP : va_P D vwCl [(z 0, .inr (8, [.ref (z 1), .int (nI ty), .ref (z 2), .ref (z 3), .ref (z 4), .ref (z 5), .int (nI kn), .ref (z 6), .ref (z 7), .ref (z 8), .int (nI no), .int (nI at_), .int (nI so), .int (nI sr), .int (nI va), .ref (z 9)])), (z 2, .inl (k.1 0, 23, .inl (ta_e t))), (z 4, .inl (k.1 0, 66, .inl (ta_e (ta_u g1 25 ((g1 25) + 1)))))] H := hP
                        have hD : va_D A [(z 0, .inr (8, [.ref (z 1), .int (nI ty), .ref (z 2), .ref (z 3), .ref (z 4), .ref (z 5), .int (nI kn), .ref (z 6), .ref (z 7), .ref (z 8), .int (nI no), .int (nI at_), .int (nI so), .int (nI sr), .int (nI va), .ref (z 9)])), (z 2, .inl (k.1 0, 23, .inl (ta_e t))), (z 4, .inl (k.1 0, 66, .inl (ta_e (ta_u g1 25 ((g1 25) + 1)))))] := hD
                        refine lv_iload_n hx hb dX8_goes_142 rfl (lv_at hl 2 rfl) ?_
                        refine lv_istore_n (lv' := [(2, .int (nI 1)), (3, .int (nI 4)), (1, .int (nI 1)), (0, .ref (z 0))]) hx hb dX8_goes_143 rfl hl (by decide) rfl (fun ls hl => ?_)
                        obtain ⟨g2, hg2⟩ : ∃ z, z = ta_u g1 25 ((g1 25) + 1) := ⟨_, rfl⟩
                        rw [← hg2] at hP hD
                        have eact : tg_act t g1 1 = g2 := by rw [hg2]; unfold tg_act; rw [if_neg (by omega), if_neg (by omega), if_neg (by omega), if_neg (by omega)]
                        have k5 : g2 5 = g1 5 := by rw [← eact]; exact tg_act_k (by omega) e2 (by omega) (by omega) (by omega)
                        have hP : va_P D vwCl [(z 0, .inr (8, [.ref (z 1), .int (nI ty), .ref (z 2), .ref (z 3), .ref (z 4), .ref (z 5), .int (nI kn), .ref (z 6), .ref (z 7), .ref (z 8), .int (nI no), .int (nI at_), .int (nI so), .int (nI sr), .int (nI va), .ref (z 9)])), (z 2, .inl (k.1 0, 23, .inl (ta_e t))), (z 4, .inl (k.1 0, 66, .inl (ta_e g2)))] H := hP
                        have hD : va_D A [(z 0, .inr (8, [.ref (z 1), .int (nI ty), .ref (z 2), .ref (z 3), .ref (z 4), .ref (z 5), .int (nI kn), .ref (z 6), .ref (z 7), .ref (z 8), .int (nI no), .int (nI at_), .int (nI so), .int (nI sr), .int (nI va), .ref (z 9)])), (z 2, .inl (k.1 0, 23, .inl (ta_e t))), (z 4, .inl (k.1 0, 66, .inl (ta_e g2)))] := hD
                        refine lv_aload_n hx hb dX8_goes_144 rfl (lv_at hl 3 rfl) ?_
                        refine ta_get C hP 0 inlX8 rfl rfl 4 (by decide) tw_128 rfl dX8_goes_145 ?_
                        refine ta_iconst C 5 dX8_goes_148 (by decide) ?_
                        refine lv_dup2_11 hx hb dX8_goes_149 rfl rfl ?_
                        refine ta_iald C hP 2 rfl (i := 5) (by omega) dX8_goes_150 ?_
                        refine ta_iconst C 1 dX8_goes_151 (by decide) ?_
                        refine ta_isub C (a := g2 5) (b := 1) (by omega) dX8_goes_152 ?_
                        refine ta_iast C hP hD hS 2 rfl (i := 5) (v := (g2 5) - 1) (by omega) dX8_goes_153 (fun H locs hP hD hS => ?_)
                        have hP : va_P D vwCl [(z 0, .inr (8, [.ref (z 1), .int (nI ty), .ref (z 2), .ref (z 3), .ref (z 4), .ref (z 5), .int (nI kn), .ref (z 6), .ref (z 7), .ref (z 8), .int (nI no), .int (nI at_), .int (nI so), .int (nI sr), .int (nI va), .ref (z 9)])), (z 2, .inl (k.1 0, 23, .inl (ta_e t))), (z 4, .inl (k.1 0, 66, .inl (ta_e (ta_u g2 5 ((g2 5) - 1)))))] H := hP
                        have hD : va_D A [(z 0, .inr (8, [.ref (z 1), .int (nI ty), .ref (z 2), .ref (z 3), .ref (z 4), .ref (z 5), .int (nI kn), .ref (z 6), .ref (z 7), .ref (z 8), .int (nI no), .int (nI at_), .int (nI so), .int (nI sr), .int (nI va), .ref (z 9)])), (z 2, .inl (k.1 0, 23, .inl (ta_e t))), (z 4, .inl (k.1 0, 66, .inl (ta_e (ta_u g2 5 ((g2 5) - 1)))))] := hD
                        refine lv_aload_n hx hb dX8_goes_154 rfl (lv_at hl 3 rfl) ?_
                        refine ta_get C hP 0 inlX8 rfl rfl 4 (by decide) tw_128 rfl dX8_goes_155 ?_
                        refine ta_iconst C 4 dX8_goes_158 (by decide) ?_
                        refine lv_aload_n hx hb dX8_goes_159 rfl (lv_at hl 3 rfl) ?_
                        refine ta_get C hP 0 inlX8 rfl rfl 4 (by decide) tw_128 rfl dX8_goes_160 ?_
                        refine ta_iconst C 5 dX8_goes_163 (by decide) ?_
                        refine ta_iald C hP 2 rfl (i := 5) (by omega) dX8_goes_164 ?_
                        refine ta_nv (y := (g2 5) - 1) ta_us ?_
                        refine ta_ine C (a := (g2 5) - 1) (tgt := 172) (by omega) dX8_goes_165 (by decide) (fun c320 => ?_) (fun c320 => ?_)
                        · refine lv_iload_n hx hb dX8_goes_172 rfl (lv_at hl 1 rfl) ?_
                          refine ta_iast C hP hD hS 2 rfl (i := 4) (v := 4) (by omega) dX8_goes_173 (fun H locs hP hD hS => ?_)
                          have hP : va_P D vwCl [(z 0, .inr (8, [.ref (z 1), .int (nI ty), .ref (z 2), .ref (z 3), .ref (z 4), .ref (z 5), .int (nI kn), .ref (z 6), .ref (z 7), .ref (z 8), .int (nI no), .int (nI at_), .int (nI so), .int (nI sr), .int (nI va), .ref (z 9)])), (z 2, .inl (k.1 0, 23, .inl (ta_e t))), (z 4, .inl (k.1 0, 66, .inl (ta_e (ta_u (ta_u g2 5 ((g2 5) - 1)) 4 4))))] H := hP
                          have hD : va_D A [(z 0, .inr (8, [.ref (z 1), .int (nI ty), .ref (z 2), .ref (z 3), .ref (z 4), .ref (z 5), .int (nI kn), .ref (z 6), .ref (z 7), .ref (z 8), .int (nI no), .int (nI at_), .int (nI so), .int (nI sr), .int (nI va), .ref (z 9)])), (z 2, .inl (k.1 0, 23, .inl (ta_e t))), (z 4, .inl (k.1 0, 66, .inl (ta_e (ta_u (ta_u g2 5 ((g2 5) - 1)) 4 4))))] := hD
                          obtain ⟨g3, hg3⟩ : ∃ z, z = ta_u (ta_u g2 5 ((g2 5) - 1)) 4 4 := ⟨_, rfl⟩
                          rw [← hg3] at hP hD
                          have edo : tg_do t g1 1 = g3 := by unfold tg_do; rw [hg3, eact, k5, if_neg (by omega), h4]
                          have ego : tg_go t g = tg_wind t g3 1 := by unfold tg_go; rw [epre, ← ha, if_neg (by omega), edo]
                          have k1 : g3 1 = g1 1 := by rw [← edo]; exact tg_do_k (by omega) e2 (by omega) (by omega) (by omega) (by omega) (by omega)
                          have hP : va_P D vwCl [(z 0, .inr (8, [.ref (z 1), .int (nI ty), .ref (z 2), .ref (z 3), .ref (z 4), .ref (z 5), .int (nI kn), .ref (z 6), .ref (z 7), .ref (z 8), .int (nI no), .int (nI at_), .int (nI so), .int (nI sr), .int (nI va), .ref (z 9)])), (z 2, .inl (k.1 0, 23, .inl (ta_e t))), (z 4, .inl (k.1 0, 66, .inl (ta_e g3)))] H := hP
                          have hD : va_D A [(z 0, .inr (8, [.ref (z 1), .int (nI ty), .ref (z 2), .ref (z 3), .ref (z 4), .ref (z 5), .int (nI kn), .ref (z 6), .ref (z 7), .ref (z 8), .int (nI no), .int (nI at_), .int (nI so), .int (nI sr), .int (nI va), .ref (z 9)])), (z 2, .inl (k.1 0, 23, .inl (ta_e t))), (z 4, .inl (k.1 0, 66, .inl (ta_e g3)))] := hD
                          refine lv_aload_n hx hb dX8_goes_174 rfl (lv_at hl 3 rfl) ?_
                          refine ta_get C hP 0 inlX8 rfl rfl 4 (by decide) tw_128 rfl dX8_goes_175 ?_
                          refine ta_iconst C 1 dX8_goes_178 (by decide) ?_
                          refine lv_dup2_11 hx hb dX8_goes_179 rfl rfl ?_
                          refine ta_iald C hP 2 rfl (i := 1) (by omega) dX8_goes_180 ?_
                          refine ta_iconst C 1 dX8_goes_181 (by decide) ?_
                          refine ta_iadd C (a := g3 1) (b := 1) dX8_goes_182 ?_
                          refine ta_iast C hP hD hS 2 rfl (i := 1) (v := (g3 1) + 1) (by omega) dX8_goes_183 (fun H locs hP hD hS => ?_)
                          have hP : va_P D vwCl [(z 0, .inr (8, [.ref (z 1), .int (nI ty), .ref (z 2), .ref (z 3), .ref (z 4), .ref (z 5), .int (nI kn), .ref (z 6), .ref (z 7), .ref (z 8), .int (nI no), .int (nI at_), .int (nI so), .int (nI sr), .int (nI va), .ref (z 9)])), (z 2, .inl (k.1 0, 23, .inl (ta_e t))), (z 4, .inl (k.1 0, 66, .inl (ta_e (ta_u g3 1 ((g3 1) + 1)))))] H := hP
                          have hD : va_D A [(z 0, .inr (8, [.ref (z 1), .int (nI ty), .ref (z 2), .ref (z 3), .ref (z 4), .ref (z 5), .int (nI kn), .ref (z 6), .ref (z 7), .ref (z 8), .int (nI no), .int (nI at_), .int (nI so), .int (nI sr), .int (nI va), .ref (z 9)])), (z 2, .inl (k.1 0, 23, .inl (ta_e t))), (z 4, .inl (k.1 0, 66, .inl (ta_e (ta_u g3 1 ((g3 1) + 1)))))] := hD
                          refine lv_aload_n hx hb dX8_goes_184 rfl (lv_at hl 3 rfl) ?_
                          refine ta_get C hP 0 inlX8 rfl rfl 4 (by decide) tw_128 rfl dX8_goes_185 ?_
                          refine ta_iconst C 1 dX8_goes_188 (by decide) ?_
                          refine ta_iald C hP 2 rfl (i := 1) (by omega) dX8_goes_189 ?_
                          refine ta_nv (y := (g3 1) + 1) ta_us ?_
                          refine lv_aload_n hx hb dX8_goes_190 rfl (lv_at hl 3 rfl) ?_
                          refine ta_get C hP 0 inlX8 rfl rfl 2 (by decide) tw_126 rfl dX8_goes_191 ?_
                          refine ta_iconst C 2 dX8_goes_194 (by decide) ?_
                          refine ta_iald C hP 1 rfl (i := 2) (by omega) dX8_goes_195 ?_
                          refine ta_cne C (a := (g3 1) + 1) (b := t 2) (tgt := 216) (by omega) (by omega) dX8_goes_196 (by decide) (fun c321 => ?_) (fun c321 => ?_)
                          · refine lv_iload_n hx hb dX8_goes_216 rfl (lv_at hl 0 rfl) ?_
                            have e : ta_u g3 1 ((g3 1) + 1) = tg_go t g := by rw [ego]; unfold tg_wind; rw [if_neg (by omega)]
                            have ekn : nI 1 = nI (tg_kn g) := by unfold tg_kn; rw [epre, ← ha]; first | rw [if_pos (by omega)] | rw [if_neg (by omega)]
                            rw [e] at hP hD
                            exact ret _ () dX8_goes_217 rfl ekn hP hD hS
                          · refine lv_aload_n hx hb dX8_goes_199 rfl (lv_at hl 3 rfl) ?_
                            refine ta_get C hP 0 inlX8 rfl rfl 4 (by decide) tw_128 rfl dX8_goes_200 ?_
                            refine ta_iconst C 1 dX8_goes_203 (by decide) ?_
                            refine ta_iconst C 0 dX8_goes_204 (by decide) ?_
                            refine ta_iast C hP hD hS 2 rfl (i := 1) (v := 0) (by omega) dX8_goes_205 (fun H locs hP hD hS => ?_)
                            have hP : va_P D vwCl [(z 0, .inr (8, [.ref (z 1), .int (nI ty), .ref (z 2), .ref (z 3), .ref (z 4), .ref (z 5), .int (nI kn), .ref (z 6), .ref (z 7), .ref (z 8), .int (nI no), .int (nI at_), .int (nI so), .int (nI sr), .int (nI va), .ref (z 9)])), (z 2, .inl (k.1 0, 23, .inl (ta_e t))), (z 4, .inl (k.1 0, 66, .inl (ta_e (ta_u (ta_u g3 1 ((g3 1) + 1)) 1 0))))] H := hP
                            have hD : va_D A [(z 0, .inr (8, [.ref (z 1), .int (nI ty), .ref (z 2), .ref (z 3), .ref (z 4), .ref (z 5), .int (nI kn), .ref (z 6), .ref (z 7), .ref (z 8), .int (nI no), .int (nI at_), .int (nI so), .int (nI sr), .int (nI va), .ref (z 9)])), (z 2, .inl (k.1 0, 23, .inl (ta_e t))), (z 4, .inl (k.1 0, 66, .inl (ta_e (ta_u (ta_u g3 1 ((g3 1) + 1)) 1 0))))] := hD
                            refine lv_aload_n hx hb dX8_goes_206 rfl (lv_at hl 3 rfl) ?_
                            refine ta_get C hP 0 inlX8 rfl rfl 4 (by decide) tw_128 rfl dX8_goes_207 ?_
                            refine ta_iconst C 0 dX8_goes_210 (by decide) ?_
                            refine lv_dup2_11 hx hb dX8_goes_211 rfl rfl ?_
                            refine ta_iald C hP 2 rfl (i := 0) (by omega) dX8_goes_212 ?_
                            refine ta_nv (y := (ta_u g3 1 ((g3 1) + 1)) 0) (ta_un (by decide)) ?_
                            refine ta_nv (y := g3 0) (ta_un (by decide)) ?_
                            refine ta_iconst C 1 dX8_goes_213 (by decide) ?_
                            refine ta_iadd C (a := g3 0) (b := 1) dX8_goes_214 ?_
                            refine ta_iast C hP hD hS 2 rfl (i := 0) (v := (g3 0) + 1) (by omega) dX8_goes_215 (fun H locs hP hD hS => ?_)
                            have hP : va_P D vwCl [(z 0, .inr (8, [.ref (z 1), .int (nI ty), .ref (z 2), .ref (z 3), .ref (z 4), .ref (z 5), .int (nI kn), .ref (z 6), .ref (z 7), .ref (z 8), .int (nI no), .int (nI at_), .int (nI so), .int (nI sr), .int (nI va), .ref (z 9)])), (z 2, .inl (k.1 0, 23, .inl (ta_e t))), (z 4, .inl (k.1 0, 66, .inl (ta_e (ta_u (ta_u (ta_u g3 1 ((g3 1) + 1)) 1 0) 0 ((g3 0) + 1)))))] H := hP
                            have hD : va_D A [(z 0, .inr (8, [.ref (z 1), .int (nI ty), .ref (z 2), .ref (z 3), .ref (z 4), .ref (z 5), .int (nI kn), .ref (z 6), .ref (z 7), .ref (z 8), .int (nI no), .int (nI at_), .int (nI so), .int (nI sr), .int (nI va), .ref (z 9)])), (z 2, .inl (k.1 0, 23, .inl (ta_e t))), (z 4, .inl (k.1 0, 66, .inl (ta_e (ta_u (ta_u (ta_u g3 1 ((g3 1) + 1)) 1 0) 0 ((g3 0) + 1)))))] := hD
                            refine lv_iload_n hx hb dX8_goes_216 rfl (lv_at hl 0 rfl) ?_
                            have e : ta_u (ta_u (ta_u g3 1 ((g3 1) + 1)) 1 0) 0 ((g3 0) + 1) = tg_go t g := by rw [ego]; unfold tg_wind; rw [if_pos (by omega), ta_uu]
                            have ekn : nI 1 = nI (tg_kn g) := by unfold tg_kn; rw [epre, ← ha]; first | rw [if_pos (by omega)] | rw [if_neg (by omega)]
                            rw [e] at hP hD
                            exact ret _ () dX8_goes_217 rfl ekn hP hD hS
                        · refine ta_iconst C 4294967295 dX8_goes_168 (by decide) ?_
                          refine lv_goto (tgt := 173) hx hb dX8_goes_169 (by decide) ?_
                          refine ta_iast C hP hD hS 2 rfl (i := 4) (v := 4294967295) (by omega) dX8_goes_173 (fun H locs hP hD hS => ?_)
                          have hP : va_P D vwCl [(z 0, .inr (8, [.ref (z 1), .int (nI ty), .ref (z 2), .ref (z 3), .ref (z 4), .ref (z 5), .int (nI kn), .ref (z 6), .ref (z 7), .ref (z 8), .int (nI no), .int (nI at_), .int (nI so), .int (nI sr), .int (nI va), .ref (z 9)])), (z 2, .inl (k.1 0, 23, .inl (ta_e t))), (z 4, .inl (k.1 0, 66, .inl (ta_e (ta_u (ta_u g2 5 ((g2 5) - 1)) 4 4294967295))))] H := hP
                          have hD : va_D A [(z 0, .inr (8, [.ref (z 1), .int (nI ty), .ref (z 2), .ref (z 3), .ref (z 4), .ref (z 5), .int (nI kn), .ref (z 6), .ref (z 7), .ref (z 8), .int (nI no), .int (nI at_), .int (nI so), .int (nI sr), .int (nI va), .ref (z 9)])), (z 2, .inl (k.1 0, 23, .inl (ta_e t))), (z 4, .inl (k.1 0, 66, .inl (ta_e (ta_u (ta_u g2 5 ((g2 5) - 1)) 4 4294967295))))] := hD
                          obtain ⟨g3, hg3⟩ : ∃ z, z = ta_u (ta_u g2 5 ((g2 5) - 1)) 4 4294967295 := ⟨_, rfl⟩
                          rw [← hg3] at hP hD
                          have edo : tg_do t g1 1 = g3 := by unfold tg_do; rw [hg3, eact, k5, if_pos (by omega)]
                          have ego : tg_go t g = tg_wind t g3 1 := by unfold tg_go; rw [epre, ← ha, if_neg (by omega), edo]
                          have k1 : g3 1 = g1 1 := by rw [← edo]; exact tg_do_k (by omega) e2 (by omega) (by omega) (by omega) (by omega) (by omega)
                          have hP : va_P D vwCl [(z 0, .inr (8, [.ref (z 1), .int (nI ty), .ref (z 2), .ref (z 3), .ref (z 4), .ref (z 5), .int (nI kn), .ref (z 6), .ref (z 7), .ref (z 8), .int (nI no), .int (nI at_), .int (nI so), .int (nI sr), .int (nI va), .ref (z 9)])), (z 2, .inl (k.1 0, 23, .inl (ta_e t))), (z 4, .inl (k.1 0, 66, .inl (ta_e g3)))] H := hP
                          have hD : va_D A [(z 0, .inr (8, [.ref (z 1), .int (nI ty), .ref (z 2), .ref (z 3), .ref (z 4), .ref (z 5), .int (nI kn), .ref (z 6), .ref (z 7), .ref (z 8), .int (nI no), .int (nI at_), .int (nI so), .int (nI sr), .int (nI va), .ref (z 9)])), (z 2, .inl (k.1 0, 23, .inl (ta_e t))), (z 4, .inl (k.1 0, 66, .inl (ta_e g3)))] := hD
                          refine lv_aload_n hx hb dX8_goes_174 rfl (lv_at hl 3 rfl) ?_
                          refine ta_get C hP 0 inlX8 rfl rfl 4 (by decide) tw_128 rfl dX8_goes_175 ?_
                          refine ta_iconst C 1 dX8_goes_178 (by decide) ?_
                          refine lv_dup2_11 hx hb dX8_goes_179 rfl rfl ?_
                          refine ta_iald C hP 2 rfl (i := 1) (by omega) dX8_goes_180 ?_
                          refine ta_iconst C 1 dX8_goes_181 (by decide) ?_
                          refine ta_iadd C (a := g3 1) (b := 1) dX8_goes_182 ?_
                          refine ta_iast C hP hD hS 2 rfl (i := 1) (v := (g3 1) + 1) (by omega) dX8_goes_183 (fun H locs hP hD hS => ?_)
                          have hP : va_P D vwCl [(z 0, .inr (8, [.ref (z 1), .int (nI ty), .ref (z 2), .ref (z 3), .ref (z 4), .ref (z 5), .int (nI kn), .ref (z 6), .ref (z 7), .ref (z 8), .int (nI no), .int (nI at_), .int (nI so), .int (nI sr), .int (nI va), .ref (z 9)])), (z 2, .inl (k.1 0, 23, .inl (ta_e t))), (z 4, .inl (k.1 0, 66, .inl (ta_e (ta_u g3 1 ((g3 1) + 1)))))] H := hP
                          have hD : va_D A [(z 0, .inr (8, [.ref (z 1), .int (nI ty), .ref (z 2), .ref (z 3), .ref (z 4), .ref (z 5), .int (nI kn), .ref (z 6), .ref (z 7), .ref (z 8), .int (nI no), .int (nI at_), .int (nI so), .int (nI sr), .int (nI va), .ref (z 9)])), (z 2, .inl (k.1 0, 23, .inl (ta_e t))), (z 4, .inl (k.1 0, 66, .inl (ta_e (ta_u g3 1 ((g3 1) + 1)))))] := hD
                          refine lv_aload_n hx hb dX8_goes_184 rfl (lv_at hl 3 rfl) ?_
                          refine ta_get C hP 0 inlX8 rfl rfl 4 (by decide) tw_128 rfl dX8_goes_185 ?_
                          refine ta_iconst C 1 dX8_goes_188 (by decide) ?_
                          refine ta_iald C hP 2 rfl (i := 1) (by omega) dX8_goes_189 ?_
                          refine ta_nv (y := (g3 1) + 1) ta_us ?_
                          refine lv_aload_n hx hb dX8_goes_190 rfl (lv_at hl 3 rfl) ?_
                          refine ta_get C hP 0 inlX8 rfl rfl 2 (by decide) tw_126 rfl dX8_goes_191 ?_
                          refine ta_iconst C 2 dX8_goes_194 (by decide) ?_
                          refine ta_iald C hP 1 rfl (i := 2) (by omega) dX8_goes_195 ?_
                          refine ta_cne C (a := (g3 1) + 1) (b := t 2) (tgt := 216) (by omega) (by omega) dX8_goes_196 (by decide) (fun c322 => ?_) (fun c322 => ?_)
                          · refine lv_iload_n hx hb dX8_goes_216 rfl (lv_at hl 0 rfl) ?_
                            have e : ta_u g3 1 ((g3 1) + 1) = tg_go t g := by rw [ego]; unfold tg_wind; rw [if_neg (by omega)]
                            have ekn : nI 1 = nI (tg_kn g) := by unfold tg_kn; rw [epre, ← ha]; first | rw [if_pos (by omega)] | rw [if_neg (by omega)]
                            rw [e] at hP hD
                            exact ret _ () dX8_goes_217 rfl ekn hP hD hS
                          · refine lv_aload_n hx hb dX8_goes_199 rfl (lv_at hl 3 rfl) ?_
                            refine ta_get C hP 0 inlX8 rfl rfl 4 (by decide) tw_128 rfl dX8_goes_200 ?_
                            refine ta_iconst C 1 dX8_goes_203 (by decide) ?_
                            refine ta_iconst C 0 dX8_goes_204 (by decide) ?_
                            refine ta_iast C hP hD hS 2 rfl (i := 1) (v := 0) (by omega) dX8_goes_205 (fun H locs hP hD hS => ?_)
                            have hP : va_P D vwCl [(z 0, .inr (8, [.ref (z 1), .int (nI ty), .ref (z 2), .ref (z 3), .ref (z 4), .ref (z 5), .int (nI kn), .ref (z 6), .ref (z 7), .ref (z 8), .int (nI no), .int (nI at_), .int (nI so), .int (nI sr), .int (nI va), .ref (z 9)])), (z 2, .inl (k.1 0, 23, .inl (ta_e t))), (z 4, .inl (k.1 0, 66, .inl (ta_e (ta_u (ta_u g3 1 ((g3 1) + 1)) 1 0))))] H := hP
                            have hD : va_D A [(z 0, .inr (8, [.ref (z 1), .int (nI ty), .ref (z 2), .ref (z 3), .ref (z 4), .ref (z 5), .int (nI kn), .ref (z 6), .ref (z 7), .ref (z 8), .int (nI no), .int (nI at_), .int (nI so), .int (nI sr), .int (nI va), .ref (z 9)])), (z 2, .inl (k.1 0, 23, .inl (ta_e t))), (z 4, .inl (k.1 0, 66, .inl (ta_e (ta_u (ta_u g3 1 ((g3 1) + 1)) 1 0))))] := hD
                            refine lv_aload_n hx hb dX8_goes_206 rfl (lv_at hl 3 rfl) ?_
                            refine ta_get C hP 0 inlX8 rfl rfl 4 (by decide) tw_128 rfl dX8_goes_207 ?_
                            refine ta_iconst C 0 dX8_goes_210 (by decide) ?_
                            refine lv_dup2_11 hx hb dX8_goes_211 rfl rfl ?_
                            refine ta_iald C hP 2 rfl (i := 0) (by omega) dX8_goes_212 ?_
                            refine ta_nv (y := (ta_u g3 1 ((g3 1) + 1)) 0) (ta_un (by decide)) ?_
                            refine ta_nv (y := g3 0) (ta_un (by decide)) ?_
                            refine ta_iconst C 1 dX8_goes_213 (by decide) ?_
                            refine ta_iadd C (a := g3 0) (b := 1) dX8_goes_214 ?_
                            refine ta_iast C hP hD hS 2 rfl (i := 0) (v := (g3 0) + 1) (by omega) dX8_goes_215 (fun H locs hP hD hS => ?_)
                            have hP : va_P D vwCl [(z 0, .inr (8, [.ref (z 1), .int (nI ty), .ref (z 2), .ref (z 3), .ref (z 4), .ref (z 5), .int (nI kn), .ref (z 6), .ref (z 7), .ref (z 8), .int (nI no), .int (nI at_), .int (nI so), .int (nI sr), .int (nI va), .ref (z 9)])), (z 2, .inl (k.1 0, 23, .inl (ta_e t))), (z 4, .inl (k.1 0, 66, .inl (ta_e (ta_u (ta_u (ta_u g3 1 ((g3 1) + 1)) 1 0) 0 ((g3 0) + 1)))))] H := hP
                            have hD : va_D A [(z 0, .inr (8, [.ref (z 1), .int (nI ty), .ref (z 2), .ref (z 3), .ref (z 4), .ref (z 5), .int (nI kn), .ref (z 6), .ref (z 7), .ref (z 8), .int (nI no), .int (nI at_), .int (nI so), .int (nI sr), .int (nI va), .ref (z 9)])), (z 2, .inl (k.1 0, 23, .inl (ta_e t))), (z 4, .inl (k.1 0, 66, .inl (ta_e (ta_u (ta_u (ta_u g3 1 ((g3 1) + 1)) 1 0) 0 ((g3 0) + 1)))))] := hD
                            refine lv_iload_n hx hb dX8_goes_216 rfl (lv_at hl 0 rfl) ?_
                            have e : ta_u (ta_u (ta_u g3 1 ((g3 1) + 1)) 1 0) 0 ((g3 0) + 1) = tg_go t g := by rw [ego]; unfold tg_wind; rw [if_pos (by omega), ta_uu]
                            have ekn : nI 1 = nI (tg_kn g) := by unfold tg_kn; rw [epre, ← ha]; first | rw [if_pos (by omega)] | rw [if_neg (by omega)]
                            rw [e] at hP hD
                            exact ret _ () dX8_goes_217 rfl ekn hP hD hS
                    · exact absurd c318 (by decide)
                  · exact absurd c317 (by decide)
                · exact absurd c316 (by decide)
              · exact absurd c315 (by decide)
      · refine lv_aload_n hx hb dX8_goes_33 rfl (lv_at hl 2 rfl) ?_
        refine lv_iload_n hx hb dX8_goes_34 rfl (lv_at hl 1 rfl) ?_
        refine ta_callVv (As := [.int (nI 1)]) (rest0 := []) (Wr := [(z 2, .inl (k.1 0, 23, .inl (ta_e t)))]) C hP hD hS (c_X8_begins l D k z ty kn no at_ so sr va g 1 (by omega) (show 0 < g 7 by omega) b7 (b9 0 (by omega)).1) 0 rfl rfl rfl [0, 2] [1] rfl rfl (by decide) (by decide) (by decide) tw_485 tw_482 tw_5 tw_483 tw_484 ⟨by decide, by decide, rfl⟩ ⟨Nat.le_of_ble_eq_true rfl, Nat.le_of_ble_eq_true rfl⟩ ⟨Nat.zero_le _, Nat.zero_le _⟩ hl.1 rfl (Nat.le_of_ble_eq_true rfl) dX8_goes_35 (fun u324 H locs h325 hP hD hS => ?_)
        have hP : va_P D vwCl [(z 2, .inl (k.1 0, 23, .inl (ta_e t))), (z 0, .inr (8, [.ref (z 1), .int (nI ty), .ref (z 2), .ref (z 3), .ref (z 4), .ref (z 5), .int (nI kn), .ref (z 6), .ref (z 7), .ref (z 8), .int (nI no), .int (nI at_), .int (nI so), .int (nI sr), .int (nI va), .ref (z 9)])), (z 4, .inl (k.1 0, 66, .inl (ta_e (tg_begin g 1))))] H := hP
        have hD : va_D A [(z 2, .inl (k.1 0, 23, .inl (ta_e t))), (z 0, .inr (8, [.ref (z 1), .int (nI ty), .ref (z 2), .ref (z 3), .ref (z 4), .ref (z 5), .int (nI kn), .ref (z 6), .ref (z 7), .ref (z 8), .int (nI no), .int (nI at_), .int (nI so), .int (nI sr), .int (nI va), .ref (z 9)])), (z 4, .inl (k.1 0, 66, .inl (ta_e (tg_begin g 1))))] := hD
        have hP : va_P D vwCl [(z 0, .inr (8, [.ref (z 1), .int (nI ty), .ref (z 2), .ref (z 3), .ref (z 4), .ref (z 5), .int (nI kn), .ref (z 6), .ref (z 7), .ref (z 8), .int (nI no), .int (nI at_), .int (nI so), .int (nI sr), .int (nI va), .ref (z 9)])), (z 2, .inl (k.1 0, 23, .inl (ta_e t))), (z 4, .inl (k.1 0, 66, .inl (ta_e (tg_begin g 1))))] H := hP.sub [1, 0, 2] rfl
        have hD : va_D A [(z 0, .inr (8, [.ref (z 1), .int (nI ty), .ref (z 2), .ref (z 3), .ref (z 4), .ref (z 5), .int (nI kn), .ref (z 6), .ref (z 7), .ref (z 8), .int (nI no), .int (nI at_), .int (nI so), .int (nI sr), .int (nI va), .ref (z 9)])), (z 2, .inl (k.1 0, 23, .inl (ta_e t))), (z 4, .inl (k.1 0, 66, .inl (ta_e (tg_begin g 1))))] := hD.sub [1, 0, 2] (by decide) rfl
        obtain ⟨g1, hg1⟩ : ∃ z, z = tg_begin g 1 := ⟨_, rfl⟩
        have epre : tg_pre g = g1 := by rw [hg1]; unfold tg_pre; rw [← ha]; exact if_pos ⟨by omega, show 0 < g 7 by omega⟩
        have hok1 : tg_ok t g1 := by rw [hg1]; exact tg_ok_begin hok (by omega) (show 0 < g 7 by omega)
        have g10 : g1 0 = g 0 := by rw [hg1]; exact tg_begin_k (a := 1) (by omega) (by omega) (by omega) (by omega)
        rw [← hg1] at hP hD
        have hP : va_P D vwCl [(z 0, .inr (8, [.ref (z 1), .int (nI ty), .ref (z 2), .ref (z 3), .ref (z 4), .ref (z 5), .int (nI kn), .ref (z 6), .ref (z 7), .ref (z 8), .int (nI no), .int (nI at_), .int (nI so), .int (nI sr), .int (nI va), .ref (z 9)])), (z 2, .inl (k.1 0, 23, .inl (ta_e t))), (z 4, .inl (k.1 0, 66, .inl (ta_e g1)))] H := hP
        have hD : va_D A [(z 0, .inr (8, [.ref (z 1), .int (nI ty), .ref (z 2), .ref (z 3), .ref (z 4), .ref (z 5), .int (nI kn), .ref (z 6), .ref (z 7), .ref (z 8), .int (nI no), .int (nI at_), .int (nI so), .int (nI sr), .int (nI va), .ref (z 9)])), (z 2, .inl (k.1 0, 23, .inl (ta_e t))), (z 4, .inl (k.1 0, 66, .inl (ta_e g1)))] := hD
        obtain ⟨-, e1, e2, e3, e4, -⟩ := id hok1
        refine lv_aload_n hx hb dX8_goes_38 rfl (lv_at hl 2 rfl) ?_
        refine ta_get C hP 0 inlX8 rfl rfl 4 (by decide) tw_128 rfl dX8_goes_39 ?_
        refine ta_iconst C 4 dX8_goes_42 (by decide) ?_
        refine ta_iald C hP 2 rfl (i := 4) (by omega) dX8_goes_43 ?_
        rcases (show g1 4 = 4294967295 ∨ g1 4 = 0 ∨ g1 4 = 1 ∨ g1 4 = 2 ∨ g1 4 = 3 ∨ g1 4 = 4 by omega) with h4 | h4 | h4 | h4 | h4 | h4
        · refine ta_nv (y := 4294967295) h4 ?_
          refine lv_istore_n (lv' := [(3, .int (nI 4294967295)), (2, .int (nI 4294967295)), (1, .int (nI 1)), (0, .ref (z 0))]) hx hb dX8_goes_44 rfl hl (by decide) rfl (fun ls hl => ?_)
          refine lv_iload_n hx hb dX8_goes_45 rfl (lv_at hl 0 rfl) ?_
          refine ta_iconst C 4294967295 dX8_goes_46 (by decide) ?_
          refine lv_icmp_eq (tgt := 174) hx hb dX8_goes_47 (by decide) (fun c326 => ?_) (fun c326 => ?_)
          · obtain ⟨g3, hg3⟩ : ∃ z, z = g1 := ⟨_, rfl⟩
            rw [← hg3] at hP hD
            have ego : tg_go t g = tg_wind t g3 1 := by unfold tg_go; rw [epre, if_pos h4, hg3]
            have k1 : g3 1 = g1 1 := by rw [hg3]
            have hP : va_P D vwCl [(z 0, .inr (8, [.ref (z 1), .int (nI ty), .ref (z 2), .ref (z 3), .ref (z 4), .ref (z 5), .int (nI kn), .ref (z 6), .ref (z 7), .ref (z 8), .int (nI no), .int (nI at_), .int (nI so), .int (nI sr), .int (nI va), .ref (z 9)])), (z 2, .inl (k.1 0, 23, .inl (ta_e t))), (z 4, .inl (k.1 0, 66, .inl (ta_e g3)))] H := hP
            have hD : va_D A [(z 0, .inr (8, [.ref (z 1), .int (nI ty), .ref (z 2), .ref (z 3), .ref (z 4), .ref (z 5), .int (nI kn), .ref (z 6), .ref (z 7), .ref (z 8), .int (nI no), .int (nI at_), .int (nI so), .int (nI sr), .int (nI va), .ref (z 9)])), (z 2, .inl (k.1 0, 23, .inl (ta_e t))), (z 4, .inl (k.1 0, 66, .inl (ta_e g3)))] := hD
            refine lv_aload_n hx hb dX8_goes_174 rfl (lv_at hl 3 rfl) ?_
            refine ta_get C hP 0 inlX8 rfl rfl 4 (by decide) tw_128 rfl dX8_goes_175 ?_
            refine ta_iconst C 1 dX8_goes_178 (by decide) ?_
            refine lv_dup2_11 hx hb dX8_goes_179 rfl rfl ?_
            refine ta_iald C hP 2 rfl (i := 1) (by omega) dX8_goes_180 ?_
            refine ta_iconst C 1 dX8_goes_181 (by decide) ?_
            refine ta_iadd C (a := g3 1) (b := 1) dX8_goes_182 ?_
            refine ta_iast C hP hD hS 2 rfl (i := 1) (v := (g3 1) + 1) (by omega) dX8_goes_183 (fun H locs hP hD hS => ?_)
            have hP : va_P D vwCl [(z 0, .inr (8, [.ref (z 1), .int (nI ty), .ref (z 2), .ref (z 3), .ref (z 4), .ref (z 5), .int (nI kn), .ref (z 6), .ref (z 7), .ref (z 8), .int (nI no), .int (nI at_), .int (nI so), .int (nI sr), .int (nI va), .ref (z 9)])), (z 2, .inl (k.1 0, 23, .inl (ta_e t))), (z 4, .inl (k.1 0, 66, .inl (ta_e (ta_u g3 1 ((g3 1) + 1)))))] H := hP
            have hD : va_D A [(z 0, .inr (8, [.ref (z 1), .int (nI ty), .ref (z 2), .ref (z 3), .ref (z 4), .ref (z 5), .int (nI kn), .ref (z 6), .ref (z 7), .ref (z 8), .int (nI no), .int (nI at_), .int (nI so), .int (nI sr), .int (nI va), .ref (z 9)])), (z 2, .inl (k.1 0, 23, .inl (ta_e t))), (z 4, .inl (k.1 0, 66, .inl (ta_e (ta_u g3 1 ((g3 1) + 1)))))] := hD
            refine lv_aload_n hx hb dX8_goes_184 rfl (lv_at hl 3 rfl) ?_
            refine ta_get C hP 0 inlX8 rfl rfl 4 (by decide) tw_128 rfl dX8_goes_185 ?_
            refine ta_iconst C 1 dX8_goes_188 (by decide) ?_
            refine ta_iald C hP 2 rfl (i := 1) (by omega) dX8_goes_189 ?_
            refine ta_nv (y := (g3 1) + 1) ta_us ?_
            refine lv_aload_n hx hb dX8_goes_190 rfl (lv_at hl 3 rfl) ?_
            refine ta_get C hP 0 inlX8 rfl rfl 2 (by decide) tw_126 rfl dX8_goes_191 ?_
            refine ta_iconst C 2 dX8_goes_194 (by decide) ?_
            refine ta_iald C hP 1 rfl (i := 2) (by omega) dX8_goes_195 ?_
            refine ta_cne C (a := (g3 1) + 1) (b := t 2) (tgt := 216) (by omega) (by omega) dX8_goes_196 (by decide) (fun c327 => ?_) (fun c327 => ?_)
            · refine lv_iload_n hx hb dX8_goes_216 rfl (lv_at hl 1 rfl) ?_
              have e : ta_u g3 1 ((g3 1) + 1) = tg_go t g := by rw [ego]; unfold tg_wind; rw [if_neg (by omega)]
              have ekn : nI 4294967295 = nI (tg_kn g) := by unfold tg_kn; rw [epre, ← ha]; first | rw [if_pos (by omega)] | rw [if_neg (by omega)]
              rw [e] at hP hD
              exact ret _ () dX8_goes_217 rfl ekn hP hD hS
            · refine lv_aload_n hx hb dX8_goes_199 rfl (lv_at hl 3 rfl) ?_
              refine ta_get C hP 0 inlX8 rfl rfl 4 (by decide) tw_128 rfl dX8_goes_200 ?_
              refine ta_iconst C 1 dX8_goes_203 (by decide) ?_
              refine ta_iconst C 0 dX8_goes_204 (by decide) ?_
              refine ta_iast C hP hD hS 2 rfl (i := 1) (v := 0) (by omega) dX8_goes_205 (fun H locs hP hD hS => ?_)
              have hP : va_P D vwCl [(z 0, .inr (8, [.ref (z 1), .int (nI ty), .ref (z 2), .ref (z 3), .ref (z 4), .ref (z 5), .int (nI kn), .ref (z 6), .ref (z 7), .ref (z 8), .int (nI no), .int (nI at_), .int (nI so), .int (nI sr), .int (nI va), .ref (z 9)])), (z 2, .inl (k.1 0, 23, .inl (ta_e t))), (z 4, .inl (k.1 0, 66, .inl (ta_e (ta_u (ta_u g3 1 ((g3 1) + 1)) 1 0))))] H := hP
              have hD : va_D A [(z 0, .inr (8, [.ref (z 1), .int (nI ty), .ref (z 2), .ref (z 3), .ref (z 4), .ref (z 5), .int (nI kn), .ref (z 6), .ref (z 7), .ref (z 8), .int (nI no), .int (nI at_), .int (nI so), .int (nI sr), .int (nI va), .ref (z 9)])), (z 2, .inl (k.1 0, 23, .inl (ta_e t))), (z 4, .inl (k.1 0, 66, .inl (ta_e (ta_u (ta_u g3 1 ((g3 1) + 1)) 1 0))))] := hD
              refine lv_aload_n hx hb dX8_goes_206 rfl (lv_at hl 3 rfl) ?_
              refine ta_get C hP 0 inlX8 rfl rfl 4 (by decide) tw_128 rfl dX8_goes_207 ?_
              refine ta_iconst C 0 dX8_goes_210 (by decide) ?_
              refine lv_dup2_11 hx hb dX8_goes_211 rfl rfl ?_
              refine ta_iald C hP 2 rfl (i := 0) (by omega) dX8_goes_212 ?_
              refine ta_nv (y := (ta_u g3 1 ((g3 1) + 1)) 0) (ta_un (by decide)) ?_
              refine ta_nv (y := g3 0) (ta_un (by decide)) ?_
              refine ta_iconst C 1 dX8_goes_213 (by decide) ?_
              refine ta_iadd C (a := g3 0) (b := 1) dX8_goes_214 ?_
              refine ta_iast C hP hD hS 2 rfl (i := 0) (v := (g3 0) + 1) (by omega) dX8_goes_215 (fun H locs hP hD hS => ?_)
              have hP : va_P D vwCl [(z 0, .inr (8, [.ref (z 1), .int (nI ty), .ref (z 2), .ref (z 3), .ref (z 4), .ref (z 5), .int (nI kn), .ref (z 6), .ref (z 7), .ref (z 8), .int (nI no), .int (nI at_), .int (nI so), .int (nI sr), .int (nI va), .ref (z 9)])), (z 2, .inl (k.1 0, 23, .inl (ta_e t))), (z 4, .inl (k.1 0, 66, .inl (ta_e (ta_u (ta_u (ta_u g3 1 ((g3 1) + 1)) 1 0) 0 ((g3 0) + 1)))))] H := hP
              have hD : va_D A [(z 0, .inr (8, [.ref (z 1), .int (nI ty), .ref (z 2), .ref (z 3), .ref (z 4), .ref (z 5), .int (nI kn), .ref (z 6), .ref (z 7), .ref (z 8), .int (nI no), .int (nI at_), .int (nI so), .int (nI sr), .int (nI va), .ref (z 9)])), (z 2, .inl (k.1 0, 23, .inl (ta_e t))), (z 4, .inl (k.1 0, 66, .inl (ta_e (ta_u (ta_u (ta_u g3 1 ((g3 1) + 1)) 1 0) 0 ((g3 0) + 1)))))] := hD
              refine lv_iload_n hx hb dX8_goes_216 rfl (lv_at hl 1 rfl) ?_
              have e : ta_u (ta_u (ta_u g3 1 ((g3 1) + 1)) 1 0) 0 ((g3 0) + 1) = tg_go t g := by rw [ego]; unfold tg_wind; rw [if_pos (by omega), ta_uu]
              have ekn : nI 4294967295 = nI (tg_kn g) := by unfold tg_kn; rw [epre, ← ha]; first | rw [if_pos (by omega)] | rw [if_neg (by omega)]
              rw [e] at hP hD
              exact ret _ () dX8_goes_217 rfl ekn hP hD hS
          · exact absurd c326 (by decide)
        · refine ta_nv (y := 0) h4 ?_
          refine lv_istore_n (lv' := [(3, .int (nI 0)), (2, .int (nI 4294967295)), (1, .int (nI 1)), (0, .ref (z 0))]) hx hb dX8_goes_44 rfl hl (by decide) rfl (fun ls hl => ?_)
          refine lv_iload_n hx hb dX8_goes_45 rfl (lv_at hl 0 rfl) ?_
          refine ta_iconst C 4294967295 dX8_goes_46 (by decide) ?_
          refine lv_icmp_eq (tgt := 174) hx hb dX8_goes_47 (by decide) (fun c328 => ?_) (fun c328 => ?_)
          · exact absurd c328 (by decide)
          · refine lv_iload_n hx hb dX8_goes_50 rfl (lv_at hl 0 rfl) ?_
            refine lv_if_eq (tgt := 59) hx hb dX8_goes_51 (by decide) (fun c329 => ?_) (fun c329 => ?_)
            · refine lv_aload_n hx hb dX8_goes_59 rfl (lv_at hl 3 rfl) ?_
              refine lv_aload_n hx hb dX8_goes_60 rfl (lv_at hl 3 rfl) ?_
              refine ta_get C hP 0 inlX8 rfl rfl 4 (by decide) tw_128 rfl dX8_goes_61 ?_
              refine ta_iconst C 3 dX8_goes_64 (by decide) ?_
              refine ta_iald C hP 2 rfl (i := 3) (by omega) dX8_goes_65 ?_
              refine ta_callVv (As := [.int (nI (g1 3))]) (rest0 := []) (Wr := []) C hP hD hS (c_X8_steps l D k z ty kn no at_ so sr va t g1 (g1 3) hok1 e3) 0 rfl rfl rfl [0, 1, 2] [] rfl rfl (by decide) (by decide) (by decide) tw_489 tw_486 tw_5 tw_487 tw_488 ⟨by decide, by decide, rfl⟩ ⟨Nat.le_of_ble_eq_true rfl, Nat.le_of_ble_eq_true rfl⟩ ⟨Nat.zero_le _, Nat.zero_le _⟩ hl.1 rfl (Nat.le_of_ble_eq_true rfl) dX8_goes_66 (fun u331 H locs h332 hP hD hS => ?_)
              have hP : va_P D vwCl [(z 0, .inr (8, [.ref (z 1), .int (nI ty), .ref (z 2), .ref (z 3), .ref (z 4), .ref (z 5), .int (nI kn), .ref (z 6), .ref (z 7), .ref (z 8), .int (nI no), .int (nI at_), .int (nI so), .int (nI sr), .int (nI va), .ref (z 9)])), (z 2, .inl (k.1 0, 23, .inl (ta_e t))), (z 4, .inl (k.1 0, 66, .inl (ta_e (tg_step t g1 (g1 3)))))] H := hP
              have hD : va_D A [(z 0, .inr (8, [.ref (z 1), .int (nI ty), .ref (z 2), .ref (z 3), .ref (z 4), .ref (z 5), .int (nI kn), .ref (z 6), .ref (z 7), .ref (z 8), .int (nI no), .int (nI at_), .int (nI so), .int (nI sr), .int (nI va), .ref (z 9)])), (z 2, .inl (k.1 0, 23, .inl (ta_e t))), (z 4, .inl (k.1 0, 66, .inl (ta_e (tg_step t g1 (g1 3)))))] := hD
              refine lv_iload_n hx hb dX8_goes_69 rfl (lv_at hl 0 rfl) ?_
              refine ta_iconst C 2 dX8_goes_70 (by decide) ?_
              refine lv_icmp_ne (tgt := 84) hx hb dX8_goes_71 (by decide) (fun c333 => ?_) (fun c333 => ?_)
              · refine lv_iload_n hx hb dX8_goes_84 rfl (lv_at hl 0 rfl) ?_
                refine ta_iconst C 1 dX8_goes_85 (by decide) ?_
                refine lv_icmp_ne (tgt := 103) hx hb dX8_goes_86 (by decide) (fun c334 => ?_) (fun c334 => ?_)
                · refine lv_iload_n hx hb dX8_goes_103 rfl (lv_at hl 0 rfl) ?_
                  refine ta_iconst C 3 dX8_goes_104 (by decide) ?_
                  refine lv_icmp_ne (tgt := 124) hx hb dX8_goes_105 (by decide) (fun c335 => ?_) (fun c335 => ?_)
                  · refine lv_iload_n hx hb dX8_goes_124 rfl (lv_at hl 0 rfl) ?_
                    refine ta_iconst C 4 dX8_goes_125 (by decide) ?_
                    refine lv_icmp_ne (tgt := 144) hx hb dX8_goes_126 (by decide) (fun c336 => ?_) (fun c336 => ?_)
                    · obtain ⟨g2, hg2⟩ : ∃ z, z = tg_step t g1 (g1 3) := ⟨_, rfl⟩
                      rw [← hg2] at hP hD
                      have eact : tg_act t g1 1 = g2 := by rw [hg2]; unfold tg_act; rw [if_pos h4]
                      have k5 : g2 5 = g1 5 := by rw [← eact]; exact tg_act_k (by omega) e2 (by omega) (by omega) (by omega)
                      have hP : va_P D vwCl [(z 0, .inr (8, [.ref (z 1), .int (nI ty), .ref (z 2), .ref (z 3), .ref (z 4), .ref (z 5), .int (nI kn), .ref (z 6), .ref (z 7), .ref (z 8), .int (nI no), .int (nI at_), .int (nI so), .int (nI sr), .int (nI va), .ref (z 9)])), (z 2, .inl (k.1 0, 23, .inl (ta_e t))), (z 4, .inl (k.1 0, 66, .inl (ta_e g2)))] H := hP
                      have hD : va_D A [(z 0, .inr (8, [.ref (z 1), .int (nI ty), .ref (z 2), .ref (z 3), .ref (z 4), .ref (z 5), .int (nI kn), .ref (z 6), .ref (z 7), .ref (z 8), .int (nI no), .int (nI at_), .int (nI so), .int (nI sr), .int (nI va), .ref (z 9)])), (z 2, .inl (k.1 0, 23, .inl (ta_e t))), (z 4, .inl (k.1 0, 66, .inl (ta_e g2)))] := hD
                      refine lv_aload_n hx hb dX8_goes_144 rfl (lv_at hl 3 rfl) ?_
                      refine ta_get C hP 0 inlX8 rfl rfl 4 (by decide) tw_128 rfl dX8_goes_145 ?_
                      refine ta_iconst C 5 dX8_goes_148 (by decide) ?_
                      refine lv_dup2_11 hx hb dX8_goes_149 rfl rfl ?_
                      refine ta_iald C hP 2 rfl (i := 5) (by omega) dX8_goes_150 ?_
                      refine ta_iconst C 1 dX8_goes_151 (by decide) ?_
                      refine ta_isub C (a := g2 5) (b := 1) (by omega) dX8_goes_152 ?_
                      refine ta_iast C hP hD hS 2 rfl (i := 5) (v := (g2 5) - 1) (by omega) dX8_goes_153 (fun H locs hP hD hS => ?_)
                      have hP : va_P D vwCl [(z 0, .inr (8, [.ref (z 1), .int (nI ty), .ref (z 2), .ref (z 3), .ref (z 4), .ref (z 5), .int (nI kn), .ref (z 6), .ref (z 7), .ref (z 8), .int (nI no), .int (nI at_), .int (nI so), .int (nI sr), .int (nI va), .ref (z 9)])), (z 2, .inl (k.1 0, 23, .inl (ta_e t))), (z 4, .inl (k.1 0, 66, .inl (ta_e (ta_u g2 5 ((g2 5) - 1)))))] H := hP
                      have hD : va_D A [(z 0, .inr (8, [.ref (z 1), .int (nI ty), .ref (z 2), .ref (z 3), .ref (z 4), .ref (z 5), .int (nI kn), .ref (z 6), .ref (z 7), .ref (z 8), .int (nI no), .int (nI at_), .int (nI so), .int (nI sr), .int (nI va), .ref (z 9)])), (z 2, .inl (k.1 0, 23, .inl (ta_e t))), (z 4, .inl (k.1 0, 66, .inl (ta_e (ta_u g2 5 ((g2 5) - 1)))))] := hD
                      refine lv_aload_n hx hb dX8_goes_154 rfl (lv_at hl 3 rfl) ?_
                      refine ta_get C hP 0 inlX8 rfl rfl 4 (by decide) tw_128 rfl dX8_goes_155 ?_
                      refine ta_iconst C 4 dX8_goes_158 (by decide) ?_
                      refine lv_aload_n hx hb dX8_goes_159 rfl (lv_at hl 3 rfl) ?_
                      refine ta_get C hP 0 inlX8 rfl rfl 4 (by decide) tw_128 rfl dX8_goes_160 ?_
                      refine ta_iconst C 5 dX8_goes_163 (by decide) ?_
                      refine ta_iald C hP 2 rfl (i := 5) (by omega) dX8_goes_164 ?_
                      refine ta_nv (y := (g2 5) - 1) ta_us ?_
                      refine ta_ine C (a := (g2 5) - 1) (tgt := 172) (by omega) dX8_goes_165 (by decide) (fun c337 => ?_) (fun c337 => ?_)
                      · refine lv_iload_n hx hb dX8_goes_172 rfl (lv_at hl 0 rfl) ?_
                        refine ta_iast C hP hD hS 2 rfl (i := 4) (v := 0) (by omega) dX8_goes_173 (fun H locs hP hD hS => ?_)
                        have hP : va_P D vwCl [(z 0, .inr (8, [.ref (z 1), .int (nI ty), .ref (z 2), .ref (z 3), .ref (z 4), .ref (z 5), .int (nI kn), .ref (z 6), .ref (z 7), .ref (z 8), .int (nI no), .int (nI at_), .int (nI so), .int (nI sr), .int (nI va), .ref (z 9)])), (z 2, .inl (k.1 0, 23, .inl (ta_e t))), (z 4, .inl (k.1 0, 66, .inl (ta_e (ta_u (ta_u g2 5 ((g2 5) - 1)) 4 0))))] H := hP
                        have hD : va_D A [(z 0, .inr (8, [.ref (z 1), .int (nI ty), .ref (z 2), .ref (z 3), .ref (z 4), .ref (z 5), .int (nI kn), .ref (z 6), .ref (z 7), .ref (z 8), .int (nI no), .int (nI at_), .int (nI so), .int (nI sr), .int (nI va), .ref (z 9)])), (z 2, .inl (k.1 0, 23, .inl (ta_e t))), (z 4, .inl (k.1 0, 66, .inl (ta_e (ta_u (ta_u g2 5 ((g2 5) - 1)) 4 0))))] := hD
                        obtain ⟨g3, hg3⟩ : ∃ z, z = ta_u (ta_u g2 5 ((g2 5) - 1)) 4 0 := ⟨_, rfl⟩
                        rw [← hg3] at hP hD
                        have edo : tg_do t g1 1 = g3 := by unfold tg_do; rw [hg3, eact, k5, if_neg (by omega), h4]
                        have ego : tg_go t g = tg_wind t g3 1 := by unfold tg_go; rw [epre, ← ha, if_neg (by omega), edo]
                        have k1 : g3 1 = g1 1 := by rw [← edo]; exact tg_do_k (by omega) e2 (by omega) (by omega) (by omega) (by omega) (by omega)
                        have hP : va_P D vwCl [(z 0, .inr (8, [.ref (z 1), .int (nI ty), .ref (z 2), .ref (z 3), .ref (z 4), .ref (z 5), .int (nI kn), .ref (z 6), .ref (z 7), .ref (z 8), .int (nI no), .int (nI at_), .int (nI so), .int (nI sr), .int (nI va), .ref (z 9)])), (z 2, .inl (k.1 0, 23, .inl (ta_e t))), (z 4, .inl (k.1 0, 66, .inl (ta_e g3)))] H := hP
                        have hD : va_D A [(z 0, .inr (8, [.ref (z 1), .int (nI ty), .ref (z 2), .ref (z 3), .ref (z 4), .ref (z 5), .int (nI kn), .ref (z 6), .ref (z 7), .ref (z 8), .int (nI no), .int (nI at_), .int (nI so), .int (nI sr), .int (nI va), .ref (z 9)])), (z 2, .inl (k.1 0, 23, .inl (ta_e t))), (z 4, .inl (k.1 0, 66, .inl (ta_e g3)))] := hD
                        refine lv_aload_n hx hb dX8_goes_174 rfl (lv_at hl 3 rfl) ?_
                        refine ta_get C hP 0 inlX8 rfl rfl 4 (by decide) tw_128 rfl dX8_goes_175 ?_
                        refine ta_iconst C 1 dX8_goes_178 (by decide) ?_
                        refine lv_dup2_11 hx hb dX8_goes_179 rfl rfl ?_
                        refine ta_iald C hP 2 rfl (i := 1) (by omega) dX8_goes_180 ?_
                        refine ta_iconst C 1 dX8_goes_181 (by decide) ?_
                        refine ta_iadd C (a := g3 1) (b := 1) dX8_goes_182 ?_
                        refine ta_iast C hP hD hS 2 rfl (i := 1) (v := (g3 1) + 1) (by omega) dX8_goes_183 (fun H locs hP hD hS => ?_)
                        have hP : va_P D vwCl [(z 0, .inr (8, [.ref (z 1), .int (nI ty), .ref (z 2), .ref (z 3), .ref (z 4), .ref (z 5), .int (nI kn), .ref (z 6), .ref (z 7), .ref (z 8), .int (nI no), .int (nI at_), .int (nI so), .int (nI sr), .int (nI va), .ref (z 9)])), (z 2, .inl (k.1 0, 23, .inl (ta_e t))), (z 4, .inl (k.1 0, 66, .inl (ta_e (ta_u g3 1 ((g3 1) + 1)))))] H := hP
                        have hD : va_D A [(z 0, .inr (8, [.ref (z 1), .int (nI ty), .ref (z 2), .ref (z 3), .ref (z 4), .ref (z 5), .int (nI kn), .ref (z 6), .ref (z 7), .ref (z 8), .int (nI no), .int (nI at_), .int (nI so), .int (nI sr), .int (nI va), .ref (z 9)])), (z 2, .inl (k.1 0, 23, .inl (ta_e t))), (z 4, .inl (k.1 0, 66, .inl (ta_e (ta_u g3 1 ((g3 1) + 1)))))] := hD
                        refine lv_aload_n hx hb dX8_goes_184 rfl (lv_at hl 3 rfl) ?_
                        refine ta_get C hP 0 inlX8 rfl rfl 4 (by decide) tw_128 rfl dX8_goes_185 ?_
                        refine ta_iconst C 1 dX8_goes_188 (by decide) ?_
                        refine ta_iald C hP 2 rfl (i := 1) (by omega) dX8_goes_189 ?_
                        refine ta_nv (y := (g3 1) + 1) ta_us ?_
                        refine lv_aload_n hx hb dX8_goes_190 rfl (lv_at hl 3 rfl) ?_
                        refine ta_get C hP 0 inlX8 rfl rfl 2 (by decide) tw_126 rfl dX8_goes_191 ?_
                        refine ta_iconst C 2 dX8_goes_194 (by decide) ?_
                        refine ta_iald C hP 1 rfl (i := 2) (by omega) dX8_goes_195 ?_
                        refine ta_cne C (a := (g3 1) + 1) (b := t 2) (tgt := 216) (by omega) (by omega) dX8_goes_196 (by decide) (fun c338 => ?_) (fun c338 => ?_)
                        · refine lv_iload_n hx hb dX8_goes_216 rfl (lv_at hl 1 rfl) ?_
                          have e : ta_u g3 1 ((g3 1) + 1) = tg_go t g := by rw [ego]; unfold tg_wind; rw [if_neg (by omega)]
                          have ekn : nI 4294967295 = nI (tg_kn g) := by unfold tg_kn; rw [epre, ← ha]; first | rw [if_pos (by omega)] | rw [if_neg (by omega)]
                          rw [e] at hP hD
                          exact ret _ () dX8_goes_217 rfl ekn hP hD hS
                        · refine lv_aload_n hx hb dX8_goes_199 rfl (lv_at hl 3 rfl) ?_
                          refine ta_get C hP 0 inlX8 rfl rfl 4 (by decide) tw_128 rfl dX8_goes_200 ?_
                          refine ta_iconst C 1 dX8_goes_203 (by decide) ?_
                          refine ta_iconst C 0 dX8_goes_204 (by decide) ?_
                          refine ta_iast C hP hD hS 2 rfl (i := 1) (v := 0) (by omega) dX8_goes_205 (fun H locs hP hD hS => ?_)
                          have hP : va_P D vwCl [(z 0, .inr (8, [.ref (z 1), .int (nI ty), .ref (z 2), .ref (z 3), .ref (z 4), .ref (z 5), .int (nI kn), .ref (z 6), .ref (z 7), .ref (z 8), .int (nI no), .int (nI at_), .int (nI so), .int (nI sr), .int (nI va), .ref (z 9)])), (z 2, .inl (k.1 0, 23, .inl (ta_e t))), (z 4, .inl (k.1 0, 66, .inl (ta_e (ta_u (ta_u g3 1 ((g3 1) + 1)) 1 0))))] H := hP
                          have hD : va_D A [(z 0, .inr (8, [.ref (z 1), .int (nI ty), .ref (z 2), .ref (z 3), .ref (z 4), .ref (z 5), .int (nI kn), .ref (z 6), .ref (z 7), .ref (z 8), .int (nI no), .int (nI at_), .int (nI so), .int (nI sr), .int (nI va), .ref (z 9)])), (z 2, .inl (k.1 0, 23, .inl (ta_e t))), (z 4, .inl (k.1 0, 66, .inl (ta_e (ta_u (ta_u g3 1 ((g3 1) + 1)) 1 0))))] := hD
                          refine lv_aload_n hx hb dX8_goes_206 rfl (lv_at hl 3 rfl) ?_
                          refine ta_get C hP 0 inlX8 rfl rfl 4 (by decide) tw_128 rfl dX8_goes_207 ?_
                          refine ta_iconst C 0 dX8_goes_210 (by decide) ?_
                          refine lv_dup2_11 hx hb dX8_goes_211 rfl rfl ?_
                          refine ta_iald C hP 2 rfl (i := 0) (by omega) dX8_goes_212 ?_
                          refine ta_nv (y := (ta_u g3 1 ((g3 1) + 1)) 0) (ta_un (by decide)) ?_
                          refine ta_nv (y := g3 0) (ta_un (by decide)) ?_
                          refine ta_iconst C 1 dX8_goes_213 (by decide) ?_
                          refine ta_iadd C (a := g3 0) (b := 1) dX8_goes_214 ?_
                          refine ta_iast C hP hD hS 2 rfl (i := 0) (v := (g3 0) + 1) (by omega) dX8_goes_215 (fun H locs hP hD hS => ?_)
                          have hP : va_P D vwCl [(z 0, .inr (8, [.ref (z 1), .int (nI ty), .ref (z 2), .ref (z 3), .ref (z 4), .ref (z 5), .int (nI kn), .ref (z 6), .ref (z 7), .ref (z 8), .int (nI no), .int (nI at_), .int (nI so), .int (nI sr), .int (nI va), .ref (z 9)])), (z 2, .inl (k.1 0, 23, .inl (ta_e t))), (z 4, .inl (k.1 0, 66, .inl (ta_e (ta_u (ta_u (ta_u g3 1 ((g3 1) + 1)) 1 0) 0 ((g3 0) + 1)))))] H := hP
                          have hD : va_D A [(z 0, .inr (8, [.ref (z 1), .int (nI ty), .ref (z 2), .ref (z 3), .ref (z 4), .ref (z 5), .int (nI kn), .ref (z 6), .ref (z 7), .ref (z 8), .int (nI no), .int (nI at_), .int (nI so), .int (nI sr), .int (nI va), .ref (z 9)])), (z 2, .inl (k.1 0, 23, .inl (ta_e t))), (z 4, .inl (k.1 0, 66, .inl (ta_e (ta_u (ta_u (ta_u g3 1 ((g3 1) + 1)) 1 0) 0 ((g3 0) + 1)))))] := hD
                          refine lv_iload_n hx hb dX8_goes_216 rfl (lv_at hl 1 rfl) ?_
                          have e : ta_u (ta_u (ta_u g3 1 ((g3 1) + 1)) 1 0) 0 ((g3 0) + 1) = tg_go t g := by rw [ego]; unfold tg_wind; rw [if_pos (by omega), ta_uu]
                          have ekn : nI 4294967295 = nI (tg_kn g) := by unfold tg_kn; rw [epre, ← ha]; first | rw [if_pos (by omega)] | rw [if_neg (by omega)]
                          rw [e] at hP hD
                          exact ret _ () dX8_goes_217 rfl ekn hP hD hS
                      · refine ta_iconst C 4294967295 dX8_goes_168 (by decide) ?_
                        refine lv_goto (tgt := 173) hx hb dX8_goes_169 (by decide) ?_
                        refine ta_iast C hP hD hS 2 rfl (i := 4) (v := 4294967295) (by omega) dX8_goes_173 (fun H locs hP hD hS => ?_)
                        have hP : va_P D vwCl [(z 0, .inr (8, [.ref (z 1), .int (nI ty), .ref (z 2), .ref (z 3), .ref (z 4), .ref (z 5), .int (nI kn), .ref (z 6), .ref (z 7), .ref (z 8), .int (nI no), .int (nI at_), .int (nI so), .int (nI sr), .int (nI va), .ref (z 9)])), (z 2, .inl (k.1 0, 23, .inl (ta_e t))), (z 4, .inl (k.1 0, 66, .inl (ta_e (ta_u (ta_u g2 5 ((g2 5) - 1)) 4 4294967295))))] H := hP
                        have hD : va_D A [(z 0, .inr (8, [.ref (z 1), .int (nI ty), .ref (z 2), .ref (z 3), .ref (z 4), .ref (z 5), .int (nI kn), .ref (z 6), .ref (z 7), .ref (z 8), .int (nI no), .int (nI at_), .int (nI so), .int (nI sr), .int (nI va), .ref (z 9)])), (z 2, .inl (k.1 0, 23, .inl (ta_e t))), (z 4, .inl (k.1 0, 66, .inl (ta_e (ta_u (ta_u g2 5 ((g2 5) - 1)) 4 4294967295))))] := hD
                        obtain ⟨g3, hg3⟩ : ∃ z, z = ta_u (ta_u g2 5 ((g2 5) - 1)) 4 4294967295 := ⟨_, rfl⟩
                        rw [← hg3] at hP hD
                        have edo : tg_do t g1 1 = g3 := by unfold tg_do; rw [hg3, eact, k5, if_pos (by omega)]
                        have ego : tg_go t g = tg_wind t g3 1 := by unfold tg_go; rw [epre, ← ha, if_neg (by omega), edo]
                        have k1 : g3 1 = g1 1 := by rw [← edo]; exact tg_do_k (by omega) e2 (by omega) (by omega) (by omega) (by omega) (by omega)
                        have hP : va_P D vwCl [(z 0, .inr (8, [.ref (z 1), .int (nI ty), .ref (z 2), .ref (z 3), .ref (z 4), .ref (z 5), .int (nI kn), .ref (z 6), .ref (z 7), .ref (z 8), .int (nI no), .int (nI at_), .int (nI so), .int (nI sr), .int (nI va), .ref (z 9)])), (z 2, .inl (k.1 0, 23, .inl (ta_e t))), (z 4, .inl (k.1 0, 66, .inl (ta_e g3)))] H := hP
                        have hD : va_D A [(z 0, .inr (8, [.ref (z 1), .int (nI ty), .ref (z 2), .ref (z 3), .ref (z 4), .ref (z 5), .int (nI kn), .ref (z 6), .ref (z 7), .ref (z 8), .int (nI no), .int (nI at_), .int (nI so), .int (nI sr), .int (nI va), .ref (z 9)])), (z 2, .inl (k.1 0, 23, .inl (ta_e t))), (z 4, .inl (k.1 0, 66, .inl (ta_e g3)))] := hD
                        refine lv_aload_n hx hb dX8_goes_174 rfl (lv_at hl 3 rfl) ?_
                        refine ta_get C hP 0 inlX8 rfl rfl 4 (by decide) tw_128 rfl dX8_goes_175 ?_
                        refine ta_iconst C 1 dX8_goes_178 (by decide) ?_
                        refine lv_dup2_11 hx hb dX8_goes_179 rfl rfl ?_
                        refine ta_iald C hP 2 rfl (i := 1) (by omega) dX8_goes_180 ?_
                        refine ta_iconst C 1 dX8_goes_181 (by decide) ?_
                        refine ta_iadd C (a := g3 1) (b := 1) dX8_goes_182 ?_
                        refine ta_iast C hP hD hS 2 rfl (i := 1) (v := (g3 1) + 1) (by omega) dX8_goes_183 (fun H locs hP hD hS => ?_)
                        have hP : va_P D vwCl [(z 0, .inr (8, [.ref (z 1), .int (nI ty), .ref (z 2), .ref (z 3), .ref (z 4), .ref (z 5), .int (nI kn), .ref (z 6), .ref (z 7), .ref (z 8), .int (nI no), .int (nI at_), .int (nI so), .int (nI sr), .int (nI va), .ref (z 9)])), (z 2, .inl (k.1 0, 23, .inl (ta_e t))), (z 4, .inl (k.1 0, 66, .inl (ta_e (ta_u g3 1 ((g3 1) + 1)))))] H := hP
                        have hD : va_D A [(z 0, .inr (8, [.ref (z 1), .int (nI ty), .ref (z 2), .ref (z 3), .ref (z 4), .ref (z 5), .int (nI kn), .ref (z 6), .ref (z 7), .ref (z 8), .int (nI no), .int (nI at_), .int (nI so), .int (nI sr), .int (nI va), .ref (z 9)])), (z 2, .inl (k.1 0, 23, .inl (ta_e t))), (z 4, .inl (k.1 0, 66, .inl (ta_e (ta_u g3 1 ((g3 1) + 1)))))] := hD
                        refine lv_aload_n hx hb dX8_goes_184 rfl (lv_at hl 3 rfl) ?_
                        refine ta_get C hP 0 inlX8 rfl rfl 4 (by decide) tw_128 rfl dX8_goes_185 ?_
                        refine ta_iconst C 1 dX8_goes_188 (by decide) ?_
                        refine ta_iald C hP 2 rfl (i := 1) (by omega) dX8_goes_189 ?_
                        refine ta_nv (y := (g3 1) + 1) ta_us ?_
                        refine lv_aload_n hx hb dX8_goes_190 rfl (lv_at hl 3 rfl) ?_
                        refine ta_get C hP 0 inlX8 rfl rfl 2 (by decide) tw_126 rfl dX8_goes_191 ?_
                        refine ta_iconst C 2 dX8_goes_194 (by decide) ?_
                        refine ta_iald C hP 1 rfl (i := 2) (by omega) dX8_goes_195 ?_
                        refine ta_cne C (a := (g3 1) + 1) (b := t 2) (tgt := 216) (by omega) (by omega) dX8_goes_196 (by decide) (fun c339 => ?_) (fun c339 => ?_)
                        · refine lv_iload_n hx hb dX8_goes_216 rfl (lv_at hl 1 rfl) ?_
                          have e : ta_u g3 1 ((g3 1) + 1) = tg_go t g := by rw [ego]; unfold tg_wind; rw [if_neg (by omega)]
                          have ekn : nI 4294967295 = nI (tg_kn g) := by unfold tg_kn; rw [epre, ← ha]; first | rw [if_pos (by omega)] | rw [if_neg (by omega)]
                          rw [e] at hP hD
                          exact ret _ () dX8_goes_217 rfl ekn hP hD hS
                        · refine lv_aload_n hx hb dX8_goes_199 rfl (lv_at hl 3 rfl) ?_
                          refine ta_get C hP 0 inlX8 rfl rfl 4 (by decide) tw_128 rfl dX8_goes_200 ?_
                          refine ta_iconst C 1 dX8_goes_203 (by decide) ?_
                          refine ta_iconst C 0 dX8_goes_204 (by decide) ?_
                          refine ta_iast C hP hD hS 2 rfl (i := 1) (v := 0) (by omega) dX8_goes_205 (fun H locs hP hD hS => ?_)
                          have hP : va_P D vwCl [(z 0, .inr (8, [.ref (z 1), .int (nI ty), .ref (z 2), .ref (z 3), .ref (z 4), .ref (z 5), .int (nI kn), .ref (z 6), .ref (z 7), .ref (z 8), .int (nI no), .int (nI at_), .int (nI so), .int (nI sr), .int (nI va), .ref (z 9)])), (z 2, .inl (k.1 0, 23, .inl (ta_e t))), (z 4, .inl (k.1 0, 66, .inl (ta_e (ta_u (ta_u g3 1 ((g3 1) + 1)) 1 0))))] H := hP
                          have hD : va_D A [(z 0, .inr (8, [.ref (z 1), .int (nI ty), .ref (z 2), .ref (z 3), .ref (z 4), .ref (z 5), .int (nI kn), .ref (z 6), .ref (z 7), .ref (z 8), .int (nI no), .int (nI at_), .int (nI so), .int (nI sr), .int (nI va), .ref (z 9)])), (z 2, .inl (k.1 0, 23, .inl (ta_e t))), (z 4, .inl (k.1 0, 66, .inl (ta_e (ta_u (ta_u g3 1 ((g3 1) + 1)) 1 0))))] := hD
                          refine lv_aload_n hx hb dX8_goes_206 rfl (lv_at hl 3 rfl) ?_
                          refine ta_get C hP 0 inlX8 rfl rfl 4 (by decide) tw_128 rfl dX8_goes_207 ?_
                          refine ta_iconst C 0 dX8_goes_210 (by decide) ?_
                          refine lv_dup2_11 hx hb dX8_goes_211 rfl rfl ?_
                          refine ta_iald C hP 2 rfl (i := 0) (by omega) dX8_goes_212 ?_
                          refine ta_nv (y := (ta_u g3 1 ((g3 1) + 1)) 0) (ta_un (by decide)) ?_
                          refine ta_nv (y := g3 0) (ta_un (by decide)) ?_
                          refine ta_iconst C 1 dX8_goes_213 (by decide) ?_
                          refine ta_iadd C (a := g3 0) (b := 1) dX8_goes_214 ?_
                          refine ta_iast C hP hD hS 2 rfl (i := 0) (v := (g3 0) + 1) (by omega) dX8_goes_215 (fun H locs hP hD hS => ?_)
                          have hP : va_P D vwCl [(z 0, .inr (8, [.ref (z 1), .int (nI ty), .ref (z 2), .ref (z 3), .ref (z 4), .ref (z 5), .int (nI kn), .ref (z 6), .ref (z 7), .ref (z 8), .int (nI no), .int (nI at_), .int (nI so), .int (nI sr), .int (nI va), .ref (z 9)])), (z 2, .inl (k.1 0, 23, .inl (ta_e t))), (z 4, .inl (k.1 0, 66, .inl (ta_e (ta_u (ta_u (ta_u g3 1 ((g3 1) + 1)) 1 0) 0 ((g3 0) + 1)))))] H := hP
                          have hD : va_D A [(z 0, .inr (8, [.ref (z 1), .int (nI ty), .ref (z 2), .ref (z 3), .ref (z 4), .ref (z 5), .int (nI kn), .ref (z 6), .ref (z 7), .ref (z 8), .int (nI no), .int (nI at_), .int (nI so), .int (nI sr), .int (nI va), .ref (z 9)])), (z 2, .inl (k.1 0, 23, .inl (ta_e t))), (z 4, .inl (k.1 0, 66, .inl (ta_e (ta_u (ta_u (ta_u g3 1 ((g3 1) + 1)) 1 0) 0 ((g3 0) + 1)))))] := hD
                          refine lv_iload_n hx hb dX8_goes_216 rfl (lv_at hl 1 rfl) ?_
                          have e : ta_u (ta_u (ta_u g3 1 ((g3 1) + 1)) 1 0) 0 ((g3 0) + 1) = tg_go t g := by rw [ego]; unfold tg_wind; rw [if_pos (by omega), ta_uu]
                          have ekn : nI 4294967295 = nI (tg_kn g) := by unfold tg_kn; rw [epre, ← ha]; first | rw [if_pos (by omega)] | rw [if_neg (by omega)]
                          rw [e] at hP hD
                          exact ret _ () dX8_goes_217 rfl ekn hP hD hS
                    · exact absurd c336 (by decide)
                  · exact absurd c335 (by decide)
                · exact absurd c334 (by decide)
              · exact absurd c333 (by decide)
            · exact absurd c329 (by decide)
        · refine ta_nv (y := 1) h4 ?_
          refine lv_istore_n (lv' := [(3, .int (nI 1)), (2, .int (nI 4294967295)), (1, .int (nI 1)), (0, .ref (z 0))]) hx hb dX8_goes_44 rfl hl (by decide) rfl (fun ls hl => ?_)
          refine lv_iload_n hx hb dX8_goes_45 rfl (lv_at hl 0 rfl) ?_
          refine ta_iconst C 4294967295 dX8_goes_46 (by decide) ?_
          refine lv_icmp_eq (tgt := 174) hx hb dX8_goes_47 (by decide) (fun c340 => ?_) (fun c340 => ?_)
          · exact absurd c340 (by decide)
          · refine lv_iload_n hx hb dX8_goes_50 rfl (lv_at hl 0 rfl) ?_
            refine lv_if_eq (tgt := 59) hx hb dX8_goes_51 (by decide) (fun c341 => ?_) (fun c341 => ?_)
            · exact absurd c341 (by decide)
            · refine lv_iload_n hx hb dX8_goes_54 rfl (lv_at hl 0 rfl) ?_
              refine ta_iconst C 2 dX8_goes_55 (by decide) ?_
              refine lv_icmp_ne (tgt := 69) hx hb dX8_goes_56 (by decide) (fun c342 => ?_) (fun c342 => ?_)
              · refine lv_iload_n hx hb dX8_goes_69 rfl (lv_at hl 0 rfl) ?_
                refine ta_iconst C 2 dX8_goes_70 (by decide) ?_
                refine lv_icmp_ne (tgt := 84) hx hb dX8_goes_71 (by decide) (fun c343 => ?_) (fun c343 => ?_)
                · refine lv_iload_n hx hb dX8_goes_84 rfl (lv_at hl 0 rfl) ?_
                  refine ta_iconst C 1 dX8_goes_85 (by decide) ?_
                  refine lv_icmp_ne (tgt := 103) hx hb dX8_goes_86 (by decide) (fun c344 => ?_) (fun c344 => ?_)
                  · exact absurd c344 (by decide)
                  · refine lv_aload_n hx hb dX8_goes_89 rfl (lv_at hl 3 rfl) ?_
                    refine lv_aload_n hx hb dX8_goes_90 rfl (lv_at hl 3 rfl) ?_
                    refine ta_get C hP 0 inlX8 rfl rfl 4 (by decide) tw_128 rfl dX8_goes_91 ?_
                    refine ta_iconst C 3 dX8_goes_94 (by decide) ?_
                    refine ta_iald C hP 2 rfl (i := 3) (by omega) dX8_goes_95 ?_
                    refine ta_iconst C 2 dX8_goes_96 (by decide) ?_
                    refine ta_iadd C (a := g1 3) (b := 2) dX8_goes_97 ?_
                    refine ta_iconst C 4 dX8_goes_98 (by decide) ?_
                    refine ta_irem C (a := (g1 3) + 2) (b := 4) (by omega) (by omega) (by omega) dX8_goes_99 ?_
                    refine ta_callVv (As := [.int (nI (((g1 3) + 2) % 4))]) (rest0 := []) (Wr := []) C hP hD hS (c_X8_steps l D k z ty kn no at_ so sr va t g1 (((g1 3) + 2) % 4) hok1 (by omega)) 0 rfl rfl rfl [0, 1, 2] [] rfl rfl (by decide) (by decide) (by decide) tw_489 tw_486 tw_5 tw_487 tw_488 ⟨by decide, by decide, rfl⟩ ⟨Nat.le_of_ble_eq_true rfl, Nat.le_of_ble_eq_true rfl⟩ ⟨Nat.zero_le _, Nat.zero_le _⟩ hl.1 rfl (Nat.le_of_ble_eq_true rfl) dX8_goes_100 (fun u346 H locs h347 hP hD hS => ?_)
                    have hP : va_P D vwCl [(z 0, .inr (8, [.ref (z 1), .int (nI ty), .ref (z 2), .ref (z 3), .ref (z 4), .ref (z 5), .int (nI kn), .ref (z 6), .ref (z 7), .ref (z 8), .int (nI no), .int (nI at_), .int (nI so), .int (nI sr), .int (nI va), .ref (z 9)])), (z 2, .inl (k.1 0, 23, .inl (ta_e t))), (z 4, .inl (k.1 0, 66, .inl (ta_e (tg_step t g1 (((g1 3) + 2) % 4)))))] H := hP
                    have hD : va_D A [(z 0, .inr (8, [.ref (z 1), .int (nI ty), .ref (z 2), .ref (z 3), .ref (z 4), .ref (z 5), .int (nI kn), .ref (z 6), .ref (z 7), .ref (z 8), .int (nI no), .int (nI at_), .int (nI so), .int (nI sr), .int (nI va), .ref (z 9)])), (z 2, .inl (k.1 0, 23, .inl (ta_e t))), (z 4, .inl (k.1 0, 66, .inl (ta_e (tg_step t g1 (((g1 3) + 2) % 4)))))] := hD
                    refine lv_iload_n hx hb dX8_goes_103 rfl (lv_at hl 0 rfl) ?_
                    refine ta_iconst C 3 dX8_goes_104 (by decide) ?_
                    refine lv_icmp_ne (tgt := 124) hx hb dX8_goes_105 (by decide) (fun c348 => ?_) (fun c348 => ?_)
                    · refine lv_iload_n hx hb dX8_goes_124 rfl (lv_at hl 0 rfl) ?_
                      refine ta_iconst C 4 dX8_goes_125 (by decide) ?_
                      refine lv_icmp_ne (tgt := 144) hx hb dX8_goes_126 (by decide) (fun c349 => ?_) (fun c349 => ?_)
                      · obtain ⟨g2, hg2⟩ : ∃ z, z = tg_step t g1 (((g1 3) + 2) % 4) := ⟨_, rfl⟩
                        rw [← hg2] at hP hD
                        have eact : tg_act t g1 1 = g2 := by rw [hg2]; unfold tg_act; rw [if_neg (by omega), if_pos h4]
                        have k5 : g2 5 = g1 5 := by rw [← eact]; exact tg_act_k (by omega) e2 (by omega) (by omega) (by omega)
                        have hP : va_P D vwCl [(z 0, .inr (8, [.ref (z 1), .int (nI ty), .ref (z 2), .ref (z 3), .ref (z 4), .ref (z 5), .int (nI kn), .ref (z 6), .ref (z 7), .ref (z 8), .int (nI no), .int (nI at_), .int (nI so), .int (nI sr), .int (nI va), .ref (z 9)])), (z 2, .inl (k.1 0, 23, .inl (ta_e t))), (z 4, .inl (k.1 0, 66, .inl (ta_e g2)))] H := hP
                        have hD : va_D A [(z 0, .inr (8, [.ref (z 1), .int (nI ty), .ref (z 2), .ref (z 3), .ref (z 4), .ref (z 5), .int (nI kn), .ref (z 6), .ref (z 7), .ref (z 8), .int (nI no), .int (nI at_), .int (nI so), .int (nI sr), .int (nI va), .ref (z 9)])), (z 2, .inl (k.1 0, 23, .inl (ta_e t))), (z 4, .inl (k.1 0, 66, .inl (ta_e g2)))] := hD
                        refine lv_aload_n hx hb dX8_goes_144 rfl (lv_at hl 3 rfl) ?_
                        refine ta_get C hP 0 inlX8 rfl rfl 4 (by decide) tw_128 rfl dX8_goes_145 ?_
                        refine ta_iconst C 5 dX8_goes_148 (by decide) ?_
                        refine lv_dup2_11 hx hb dX8_goes_149 rfl rfl ?_
                        refine ta_iald C hP 2 rfl (i := 5) (by omega) dX8_goes_150 ?_
                        refine ta_iconst C 1 dX8_goes_151 (by decide) ?_
                        refine ta_isub C (a := g2 5) (b := 1) (by omega) dX8_goes_152 ?_
                        refine ta_iast C hP hD hS 2 rfl (i := 5) (v := (g2 5) - 1) (by omega) dX8_goes_153 (fun H locs hP hD hS => ?_)
                        have hP : va_P D vwCl [(z 0, .inr (8, [.ref (z 1), .int (nI ty), .ref (z 2), .ref (z 3), .ref (z 4), .ref (z 5), .int (nI kn), .ref (z 6), .ref (z 7), .ref (z 8), .int (nI no), .int (nI at_), .int (nI so), .int (nI sr), .int (nI va), .ref (z 9)])), (z 2, .inl (k.1 0, 23, .inl (ta_e t))), (z 4, .inl (k.1 0, 66, .inl (ta_e (ta_u g2 5 ((g2 5) - 1)))))] H := hP
                        have hD : va_D A [(z 0, .inr (8, [.ref (z 1), .int (nI ty), .ref (z 2), .ref (z 3), .ref (z 4), .ref (z 5), .int (nI kn), .ref (z 6), .ref (z 7), .ref (z 8), .int (nI no), .int (nI at_), .int (nI so), .int (nI sr), .int (nI va), .ref (z 9)])), (z 2, .inl (k.1 0, 23, .inl (ta_e t))), (z 4, .inl (k.1 0, 66, .inl (ta_e (ta_u g2 5 ((g2 5) - 1)))))] := hD
                        refine lv_aload_n hx hb dX8_goes_154 rfl (lv_at hl 3 rfl) ?_
                        refine ta_get C hP 0 inlX8 rfl rfl 4 (by decide) tw_128 rfl dX8_goes_155 ?_
                        refine ta_iconst C 4 dX8_goes_158 (by decide) ?_
                        refine lv_aload_n hx hb dX8_goes_159 rfl (lv_at hl 3 rfl) ?_
                        refine ta_get C hP 0 inlX8 rfl rfl 4 (by decide) tw_128 rfl dX8_goes_160 ?_
                        refine ta_iconst C 5 dX8_goes_163 (by decide) ?_
                        refine ta_iald C hP 2 rfl (i := 5) (by omega) dX8_goes_164 ?_
                        refine ta_nv (y := (g2 5) - 1) ta_us ?_
                        refine ta_ine C (a := (g2 5) - 1) (tgt := 172) (by omega) dX8_goes_165 (by decide) (fun c350 => ?_) (fun c350 => ?_)
                        · refine lv_iload_n hx hb dX8_goes_172 rfl (lv_at hl 0 rfl) ?_
                          refine ta_iast C hP hD hS 2 rfl (i := 4) (v := 1) (by omega) dX8_goes_173 (fun H locs hP hD hS => ?_)
                          have hP : va_P D vwCl [(z 0, .inr (8, [.ref (z 1), .int (nI ty), .ref (z 2), .ref (z 3), .ref (z 4), .ref (z 5), .int (nI kn), .ref (z 6), .ref (z 7), .ref (z 8), .int (nI no), .int (nI at_), .int (nI so), .int (nI sr), .int (nI va), .ref (z 9)])), (z 2, .inl (k.1 0, 23, .inl (ta_e t))), (z 4, .inl (k.1 0, 66, .inl (ta_e (ta_u (ta_u g2 5 ((g2 5) - 1)) 4 1))))] H := hP
                          have hD : va_D A [(z 0, .inr (8, [.ref (z 1), .int (nI ty), .ref (z 2), .ref (z 3), .ref (z 4), .ref (z 5), .int (nI kn), .ref (z 6), .ref (z 7), .ref (z 8), .int (nI no), .int (nI at_), .int (nI so), .int (nI sr), .int (nI va), .ref (z 9)])), (z 2, .inl (k.1 0, 23, .inl (ta_e t))), (z 4, .inl (k.1 0, 66, .inl (ta_e (ta_u (ta_u g2 5 ((g2 5) - 1)) 4 1))))] := hD
                          obtain ⟨g3, hg3⟩ : ∃ z, z = ta_u (ta_u g2 5 ((g2 5) - 1)) 4 1 := ⟨_, rfl⟩
                          rw [← hg3] at hP hD
                          have edo : tg_do t g1 1 = g3 := by unfold tg_do; rw [hg3, eact, k5, if_neg (by omega), h4]
                          have ego : tg_go t g = tg_wind t g3 1 := by unfold tg_go; rw [epre, ← ha, if_neg (by omega), edo]
                          have k1 : g3 1 = g1 1 := by rw [← edo]; exact tg_do_k (by omega) e2 (by omega) (by omega) (by omega) (by omega) (by omega)
                          have hP : va_P D vwCl [(z 0, .inr (8, [.ref (z 1), .int (nI ty), .ref (z 2), .ref (z 3), .ref (z 4), .ref (z 5), .int (nI kn), .ref (z 6), .ref (z 7), .ref (z 8), .int (nI no), .int (nI at_), .int (nI so), .int (nI sr), .int (nI va), .ref (z 9)])), (z 2, .inl (k.1 0, 23, .inl (ta_e t))), (z 4, .inl (k.1 0, 66, .inl (ta_e g3)))] H := hP
                          have hD : va_D A [(z 0, .inr (8, [.ref (z 1), .int (nI ty), .ref (z 2), .ref (z 3), .ref (z 4), .ref (z 5), .int (nI kn), .ref (z 6), .ref (z 7), .ref (z 8), .int (nI no), .int (nI at_), .int (nI so), .int (nI sr), .int (nI va), .ref (z 9)])), (z 2, .inl (k.1 0, 23, .inl (ta_e t))), (z 4, .inl (k.1 0, 66, .inl (ta_e g3)))] := hD
                          refine lv_aload_n hx hb dX8_goes_174 rfl (lv_at hl 3 rfl) ?_
                          refine ta_get C hP 0 inlX8 rfl rfl 4 (by decide) tw_128 rfl dX8_goes_175 ?_
                          refine ta_iconst C 1 dX8_goes_178 (by decide) ?_
                          refine lv_dup2_11 hx hb dX8_goes_179 rfl rfl ?_
                          refine ta_iald C hP 2 rfl (i := 1) (by omega) dX8_goes_180 ?_
                          refine ta_iconst C 1 dX8_goes_181 (by decide) ?_
                          refine ta_iadd C (a := g3 1) (b := 1) dX8_goes_182 ?_
                          refine ta_iast C hP hD hS 2 rfl (i := 1) (v := (g3 1) + 1) (by omega) dX8_goes_183 (fun H locs hP hD hS => ?_)
                          have hP : va_P D vwCl [(z 0, .inr (8, [.ref (z 1), .int (nI ty), .ref (z 2), .ref (z 3), .ref (z 4), .ref (z 5), .int (nI kn), .ref (z 6), .ref (z 7), .ref (z 8), .int (nI no), .int (nI at_), .int (nI so), .int (nI sr), .int (nI va), .ref (z 9)])), (z 2, .inl (k.1 0, 23, .inl (ta_e t))), (z 4, .inl (k.1 0, 66, .inl (ta_e (ta_u g3 1 ((g3 1) + 1)))))] H := hP
                          have hD : va_D A [(z 0, .inr (8, [.ref (z 1), .int (nI ty), .ref (z 2), .ref (z 3), .ref (z 4), .ref (z 5), .int (nI kn), .ref (z 6), .ref (z 7), .ref (z 8), .int (nI no), .int (nI at_), .int (nI so), .int (nI sr), .int (nI va), .ref (z 9)])), (z 2, .inl (k.1 0, 23, .inl (ta_e t))), (z 4, .inl (k.1 0, 66, .inl (ta_e (ta_u g3 1 ((g3 1) + 1)))))] := hD
                          refine lv_aload_n hx hb dX8_goes_184 rfl (lv_at hl 3 rfl) ?_
                          refine ta_get C hP 0 inlX8 rfl rfl 4 (by decide) tw_128 rfl dX8_goes_185 ?_
                          refine ta_iconst C 1 dX8_goes_188 (by decide) ?_
                          refine ta_iald C hP 2 rfl (i := 1) (by omega) dX8_goes_189 ?_
                          refine ta_nv (y := (g3 1) + 1) ta_us ?_
                          refine lv_aload_n hx hb dX8_goes_190 rfl (lv_at hl 3 rfl) ?_
                          refine ta_get C hP 0 inlX8 rfl rfl 2 (by decide) tw_126 rfl dX8_goes_191 ?_
                          refine ta_iconst C 2 dX8_goes_194 (by decide) ?_
                          refine ta_iald C hP 1 rfl (i := 2) (by omega) dX8_goes_195 ?_
                          refine ta_cne C (a := (g3 1) + 1) (b := t 2) (tgt := 216) (by omega) (by omega) dX8_goes_196 (by decide) (fun c351 => ?_) (fun c351 => ?_)
                          · refine lv_iload_n hx hb dX8_goes_216 rfl (lv_at hl 1 rfl) ?_
                            have e : ta_u g3 1 ((g3 1) + 1) = tg_go t g := by rw [ego]; unfold tg_wind; rw [if_neg (by omega)]
                            have ekn : nI 4294967295 = nI (tg_kn g) := by unfold tg_kn; rw [epre, ← ha]; first | rw [if_pos (by omega)] | rw [if_neg (by omega)]
                            rw [e] at hP hD
                            exact ret _ () dX8_goes_217 rfl ekn hP hD hS
                          · refine lv_aload_n hx hb dX8_goes_199 rfl (lv_at hl 3 rfl) ?_
                            refine ta_get C hP 0 inlX8 rfl rfl 4 (by decide) tw_128 rfl dX8_goes_200 ?_
                            refine ta_iconst C 1 dX8_goes_203 (by decide) ?_
                            refine ta_iconst C 0 dX8_goes_204 (by decide) ?_
                            refine ta_iast C hP hD hS 2 rfl (i := 1) (v := 0) (by omega) dX8_goes_205 (fun H locs hP hD hS => ?_)
                            have hP : va_P D vwCl [(z 0, .inr (8, [.ref (z 1), .int (nI ty), .ref (z 2), .ref (z 3), .ref (z 4), .ref (z 5), .int (nI kn), .ref (z 6), .ref (z 7), .ref (z 8), .int (nI no), .int (nI at_), .int (nI so), .int (nI sr), .int (nI va), .ref (z 9)])), (z 2, .inl (k.1 0, 23, .inl (ta_e t))), (z 4, .inl (k.1 0, 66, .inl (ta_e (ta_u (ta_u g3 1 ((g3 1) + 1)) 1 0))))] H := hP
                            have hD : va_D A [(z 0, .inr (8, [.ref (z 1), .int (nI ty), .ref (z 2), .ref (z 3), .ref (z 4), .ref (z 5), .int (nI kn), .ref (z 6), .ref (z 7), .ref (z 8), .int (nI no), .int (nI at_), .int (nI so), .int (nI sr), .int (nI va), .ref (z 9)])), (z 2, .inl (k.1 0, 23, .inl (ta_e t))), (z 4, .inl (k.1 0, 66, .inl (ta_e (ta_u (ta_u g3 1 ((g3 1) + 1)) 1 0))))] := hD
                            refine lv_aload_n hx hb dX8_goes_206 rfl (lv_at hl 3 rfl) ?_
                            refine ta_get C hP 0 inlX8 rfl rfl 4 (by decide) tw_128 rfl dX8_goes_207 ?_
                            refine ta_iconst C 0 dX8_goes_210 (by decide) ?_
                            refine lv_dup2_11 hx hb dX8_goes_211 rfl rfl ?_
                            refine ta_iald C hP 2 rfl (i := 0) (by omega) dX8_goes_212 ?_
                            refine ta_nv (y := (ta_u g3 1 ((g3 1) + 1)) 0) (ta_un (by decide)) ?_
                            refine ta_nv (y := g3 0) (ta_un (by decide)) ?_
                            refine ta_iconst C 1 dX8_goes_213 (by decide) ?_
                            refine ta_iadd C (a := g3 0) (b := 1) dX8_goes_214 ?_
                            refine ta_iast C hP hD hS 2 rfl (i := 0) (v := (g3 0) + 1) (by omega) dX8_goes_215 (fun H locs hP hD hS => ?_)
                            have hP : va_P D vwCl [(z 0, .inr (8, [.ref (z 1), .int (nI ty), .ref (z 2), .ref (z 3), .ref (z 4), .ref (z 5), .int (nI kn), .ref (z 6), .ref (z 7), .ref (z 8), .int (nI no), .int (nI at_), .int (nI so), .int (nI sr), .int (nI va), .ref (z 9)])), (z 2, .inl (k.1 0, 23, .inl (ta_e t))), (z 4, .inl (k.1 0, 66, .inl (ta_e (ta_u (ta_u (ta_u g3 1 ((g3 1) + 1)) 1 0) 0 ((g3 0) + 1)))))] H := hP
                            have hD : va_D A [(z 0, .inr (8, [.ref (z 1), .int (nI ty), .ref (z 2), .ref (z 3), .ref (z 4), .ref (z 5), .int (nI kn), .ref (z 6), .ref (z 7), .ref (z 8), .int (nI no), .int (nI at_), .int (nI so), .int (nI sr), .int (nI va), .ref (z 9)])), (z 2, .inl (k.1 0, 23, .inl (ta_e t))), (z 4, .inl (k.1 0, 66, .inl (ta_e (ta_u (ta_u (ta_u g3 1 ((g3 1) + 1)) 1 0) 0 ((g3 0) + 1)))))] := hD
                            refine lv_iload_n hx hb dX8_goes_216 rfl (lv_at hl 1 rfl) ?_
                            have e : ta_u (ta_u (ta_u g3 1 ((g3 1) + 1)) 1 0) 0 ((g3 0) + 1) = tg_go t g := by rw [ego]; unfold tg_wind; rw [if_pos (by omega), ta_uu]
                            have ekn : nI 4294967295 = nI (tg_kn g) := by unfold tg_kn; rw [epre, ← ha]; first | rw [if_pos (by omega)] | rw [if_neg (by omega)]
                            rw [e] at hP hD
                            exact ret _ () dX8_goes_217 rfl ekn hP hD hS
                        · refine ta_iconst C 4294967295 dX8_goes_168 (by decide) ?_
                          refine lv_goto (tgt := 173) hx hb dX8_goes_169 (by decide) ?_
                          refine ta_iast C hP hD hS 2 rfl (i := 4) (v := 4294967295) (by omega) dX8_goes_173 (fun H locs hP hD hS => ?_)
                          have hP : va_P D vwCl [(z 0, .inr (8, [.ref (z 1), .int (nI ty), .ref (z 2), .ref (z 3), .ref (z 4), .ref (z 5), .int (nI kn), .ref (z 6), .ref (z 7), .ref (z 8), .int (nI no), .int (nI at_), .int (nI so), .int (nI sr), .int (nI va), .ref (z 9)])), (z 2, .inl (k.1 0, 23, .inl (ta_e t))), (z 4, .inl (k.1 0, 66, .inl (ta_e (ta_u (ta_u g2 5 ((g2 5) - 1)) 4 4294967295))))] H := hP
                          have hD : va_D A [(z 0, .inr (8, [.ref (z 1), .int (nI ty), .ref (z 2), .ref (z 3), .ref (z 4), .ref (z 5), .int (nI kn), .ref (z 6), .ref (z 7), .ref (z 8), .int (nI no), .int (nI at_), .int (nI so), .int (nI sr), .int (nI va), .ref (z 9)])), (z 2, .inl (k.1 0, 23, .inl (ta_e t))), (z 4, .inl (k.1 0, 66, .inl (ta_e (ta_u (ta_u g2 5 ((g2 5) - 1)) 4 4294967295))))] := hD
                          obtain ⟨g3, hg3⟩ : ∃ z, z = ta_u (ta_u g2 5 ((g2 5) - 1)) 4 4294967295 := ⟨_, rfl⟩
                          rw [← hg3] at hP hD
                          have edo : tg_do t g1 1 = g3 := by unfold tg_do; rw [hg3, eact, k5, if_pos (by omega)]
                          have ego : tg_go t g = tg_wind t g3 1 := by unfold tg_go; rw [epre, ← ha, if_neg (by omega), edo]
                          have k1 : g3 1 = g1 1 := by rw [← edo]; exact tg_do_k (by omega) e2 (by omega) (by omega) (by omega) (by omega) (by omega)
                          have hP : va_P D vwCl [(z 0, .inr (8, [.ref (z 1), .int (nI ty), .ref (z 2), .ref (z 3), .ref (z 4), .ref (z 5), .int (nI kn), .ref (z 6), .ref (z 7), .ref (z 8), .int (nI no), .int (nI at_), .int (nI so), .int (nI sr), .int (nI va), .ref (z 9)])), (z 2, .inl (k.1 0, 23, .inl (ta_e t))), (z 4, .inl (k.1 0, 66, .inl (ta_e g3)))] H := hP
                          have hD : va_D A [(z 0, .inr (8, [.ref (z 1), .int (nI ty), .ref (z 2), .ref (z 3), .ref (z 4), .ref (z 5), .int (nI kn), .ref (z 6), .ref (z 7), .ref (z 8), .int (nI no), .int (nI at_), .int (nI so), .int (nI sr), .int (nI va), .ref (z 9)])), (z 2, .inl (k.1 0, 23, .inl (ta_e t))), (z 4, .inl (k.1 0, 66, .inl (ta_e g3)))] := hD
                          refine lv_aload_n hx hb dX8_goes_174 rfl (lv_at hl 3 rfl) ?_
                          refine ta_get C hP 0 inlX8 rfl rfl 4 (by decide) tw_128 rfl dX8_goes_175 ?_
                          refine ta_iconst C 1 dX8_goes_178 (by decide) ?_
                          refine lv_dup2_11 hx hb dX8_goes_179 rfl rfl ?_
                          refine ta_iald C hP 2 rfl (i := 1) (by omega) dX8_goes_180 ?_
                          refine ta_iconst C 1 dX8_goes_181 (by decide) ?_
                          refine ta_iadd C (a := g3 1) (b := 1) dX8_goes_182 ?_
                          refine ta_iast C hP hD hS 2 rfl (i := 1) (v := (g3 1) + 1) (by omega) dX8_goes_183 (fun H locs hP hD hS => ?_)
                          have hP : va_P D vwCl [(z 0, .inr (8, [.ref (z 1), .int (nI ty), .ref (z 2), .ref (z 3), .ref (z 4), .ref (z 5), .int (nI kn), .ref (z 6), .ref (z 7), .ref (z 8), .int (nI no), .int (nI at_), .int (nI so), .int (nI sr), .int (nI va), .ref (z 9)])), (z 2, .inl (k.1 0, 23, .inl (ta_e t))), (z 4, .inl (k.1 0, 66, .inl (ta_e (ta_u g3 1 ((g3 1) + 1)))))] H := hP
                          have hD : va_D A [(z 0, .inr (8, [.ref (z 1), .int (nI ty), .ref (z 2), .ref (z 3), .ref (z 4), .ref (z 5), .int (nI kn), .ref (z 6), .ref (z 7), .ref (z 8), .int (nI no), .int (nI at_), .int (nI so), .int (nI sr), .int (nI va), .ref (z 9)])), (z 2, .inl (k.1 0, 23, .inl (ta_e t))), (z 4, .inl (k.1 0, 66, .inl (ta_e (ta_u g3 1 ((g3 1) + 1)))))] := hD
                          refine lv_aload_n hx hb dX8_goes_184 rfl (lv_at hl 3 rfl) ?_
                          refine ta_get C hP 0 inlX8 rfl rfl 4 (by decide) tw_128 rfl dX8_goes_185 ?_
                          refine ta_iconst C 1 dX8_goes_188 (by decide) ?_
                          refine ta_iald C hP 2 rfl (i := 1) (by omega) dX8_goes_189 ?_
                          refine ta_nv (y := (g3 1) + 1) ta_us ?_
                          refine lv_aload_n hx hb dX8_goes_190 rfl (lv_at hl 3 rfl) ?_
                          refine ta_get C hP 0 inlX8 rfl rfl 2 (by decide) tw_126 rfl dX8_goes_191 ?_
                          refine ta_iconst C 2 dX8_goes_194 (by decide) ?_
                          refine ta_iald C hP 1 rfl (i := 2) (by omega) dX8_goes_195 ?_
                          refine ta_cne C (a := (g3 1) + 1) (b := t 2) (tgt := 216) (by omega) (by omega) dX8_goes_196 (by decide) (fun c352 => ?_) (fun c352 => ?_)
                          · refine lv_iload_n hx hb dX8_goes_216 rfl (lv_at hl 1 rfl) ?_
                            have e : ta_u g3 1 ((g3 1) + 1) = tg_go t g := by rw [ego]; unfold tg_wind; rw [if_neg (by omega)]
                            have ekn : nI 4294967295 = nI (tg_kn g) := by unfold tg_kn; rw [epre, ← ha]; first | rw [if_pos (by omega)] | rw [if_neg (by omega)]
                            rw [e] at hP hD
                            exact ret _ () dX8_goes_217 rfl ekn hP hD hS
                          · refine lv_aload_n hx hb dX8_goes_199 rfl (lv_at hl 3 rfl) ?_
                            refine ta_get C hP 0 inlX8 rfl rfl 4 (by decide) tw_128 rfl dX8_goes_200 ?_
                            refine ta_iconst C 1 dX8_goes_203 (by decide) ?_
                            refine ta_iconst C 0 dX8_goes_204 (by decide) ?_
                            refine ta_iast C hP hD hS 2 rfl (i := 1) (v := 0) (by omega) dX8_goes_205 (fun H locs hP hD hS => ?_)
                            have hP : va_P D vwCl [(z 0, .inr (8, [.ref (z 1), .int (nI ty), .ref (z 2), .ref (z 3), .ref (z 4), .ref (z 5), .int (nI kn), .ref (z 6), .ref (z 7), .ref (z 8), .int (nI no), .int (nI at_), .int (nI so), .int (nI sr), .int (nI va), .ref (z 9)])), (z 2, .inl (k.1 0, 23, .inl (ta_e t))), (z 4, .inl (k.1 0, 66, .inl (ta_e (ta_u (ta_u g3 1 ((g3 1) + 1)) 1 0))))] H := hP
                            have hD : va_D A [(z 0, .inr (8, [.ref (z 1), .int (nI ty), .ref (z 2), .ref (z 3), .ref (z 4), .ref (z 5), .int (nI kn), .ref (z 6), .ref (z 7), .ref (z 8), .int (nI no), .int (nI at_), .int (nI so), .int (nI sr), .int (nI va), .ref (z 9)])), (z 2, .inl (k.1 0, 23, .inl (ta_e t))), (z 4, .inl (k.1 0, 66, .inl (ta_e (ta_u (ta_u g3 1 ((g3 1) + 1)) 1 0))))] := hD
                            refine lv_aload_n hx hb dX8_goes_206 rfl (lv_at hl 3 rfl) ?_
                            refine ta_get C hP 0 inlX8 rfl rfl 4 (by decide) tw_128 rfl dX8_goes_207 ?_
                            refine ta_iconst C 0 dX8_goes_210 (by decide) ?_
                            refine lv_dup2_11 hx hb dX8_goes_211 rfl rfl ?_
                            refine ta_iald C hP 2 rfl (i := 0) (by omega) dX8_goes_212 ?_
                            refine ta_nv (y := (ta_u g3 1 ((g3 1) + 1)) 0) (ta_un (by decide)) ?_
                            refine ta_nv (y := g3 0) (ta_un (by decide)) ?_
                            refine ta_iconst C 1 dX8_goes_213 (by decide) ?_
                            refine ta_iadd C (a := g3 0) (b := 1) dX8_goes_214 ?_
                            refine ta_iast C hP hD hS 2 rfl (i := 0) (v := (g3 0) + 1) (by omega) dX8_goes_215 (fun H locs hP hD hS => ?_)
                            have hP : va_P D vwCl [(z 0, .inr (8, [.ref (z 1), .int (nI ty), .ref (z 2), .ref (z 3), .ref (z 4), .ref (z 5), .int (nI kn), .ref (z 6), .ref (z 7), .ref (z 8), .int (nI no), .int (nI at_), .int (nI so), .int (nI sr), .int (nI va), .ref (z 9)])), (z 2, .inl (k.1 0, 23, .inl (ta_e t))), (z 4, .inl (k.1 0, 66, .inl (ta_e (ta_u (ta_u (ta_u g3 1 ((g3 1) + 1)) 1 0) 0 ((g3 0) + 1)))))] H := hP
                            have hD : va_D A [(z 0, .inr (8, [.ref (z 1), .int (nI ty), .ref (z 2), .ref (z 3), .ref (z 4), .ref (z 5), .int (nI kn), .ref (z 6), .ref (z 7), .ref (z 8), .int (nI no), .int (nI at_), .int (nI so), .int (nI sr), .int (nI va), .ref (z 9)])), (z 2, .inl (k.1 0, 23, .inl (ta_e t))), (z 4, .inl (k.1 0, 66, .inl (ta_e (ta_u (ta_u (ta_u g3 1 ((g3 1) + 1)) 1 0) 0 ((g3 0) + 1)))))] := hD
                            refine lv_iload_n hx hb dX8_goes_216 rfl (lv_at hl 1 rfl) ?_
                            have e : ta_u (ta_u (ta_u g3 1 ((g3 1) + 1)) 1 0) 0 ((g3 0) + 1) = tg_go t g := by rw [ego]; unfold tg_wind; rw [if_pos (by omega), ta_uu]
                            have ekn : nI 4294967295 = nI (tg_kn g) := by unfold tg_kn; rw [epre, ← ha]; first | rw [if_pos (by omega)] | rw [if_neg (by omega)]
                            rw [e] at hP hD
                            exact ret _ () dX8_goes_217 rfl ekn hP hD hS
                      · exact absurd c349 (by decide)
                    · exact absurd c348 (by decide)
                · exact absurd c343 (by decide)
              · exact absurd c342 (by decide)
        · refine ta_nv (y := 2) h4 ?_
          refine lv_istore_n (lv' := [(3, .int (nI 2)), (2, .int (nI 4294967295)), (1, .int (nI 1)), (0, .ref (z 0))]) hx hb dX8_goes_44 rfl hl (by decide) rfl (fun ls hl => ?_)
          refine lv_iload_n hx hb dX8_goes_45 rfl (lv_at hl 0 rfl) ?_
          refine ta_iconst C 4294967295 dX8_goes_46 (by decide) ?_
          refine lv_icmp_eq (tgt := 174) hx hb dX8_goes_47 (by decide) (fun c353 => ?_) (fun c353 => ?_)
          · exact absurd c353 (by decide)
          · refine lv_iload_n hx hb dX8_goes_50 rfl (lv_at hl 0 rfl) ?_
            refine lv_if_eq (tgt := 59) hx hb dX8_goes_51 (by decide) (fun c354 => ?_) (fun c354 => ?_)
            · exact absurd c354 (by decide)
            · refine lv_iload_n hx hb dX8_goes_54 rfl (lv_at hl 0 rfl) ?_
              refine ta_iconst C 2 dX8_goes_55 (by decide) ?_
              refine lv_icmp_ne (tgt := 69) hx hb dX8_goes_56 (by decide) (fun c355 => ?_) (fun c355 => ?_)
              · exact absurd c355 (by decide)
              · refine lv_aload_n hx hb dX8_goes_59 rfl (lv_at hl 3 rfl) ?_
                refine lv_aload_n hx hb dX8_goes_60 rfl (lv_at hl 3 rfl) ?_
                refine ta_get C hP 0 inlX8 rfl rfl 4 (by decide) tw_128 rfl dX8_goes_61 ?_
                refine ta_iconst C 3 dX8_goes_64 (by decide) ?_
                refine ta_iald C hP 2 rfl (i := 3) (by omega) dX8_goes_65 ?_
                refine ta_callVv (As := [.int (nI (g1 3))]) (rest0 := []) (Wr := []) C hP hD hS (c_X8_steps l D k z ty kn no at_ so sr va t g1 (g1 3) hok1 e3) 0 rfl rfl rfl [0, 1, 2] [] rfl rfl (by decide) (by decide) (by decide) tw_489 tw_486 tw_5 tw_487 tw_488 ⟨by decide, by decide, rfl⟩ ⟨Nat.le_of_ble_eq_true rfl, Nat.le_of_ble_eq_true rfl⟩ ⟨Nat.zero_le _, Nat.zero_le _⟩ hl.1 rfl (Nat.le_of_ble_eq_true rfl) dX8_goes_66 (fun u357 H locs h358 hP hD hS => ?_)
                have hP : va_P D vwCl [(z 0, .inr (8, [.ref (z 1), .int (nI ty), .ref (z 2), .ref (z 3), .ref (z 4), .ref (z 5), .int (nI kn), .ref (z 6), .ref (z 7), .ref (z 8), .int (nI no), .int (nI at_), .int (nI so), .int (nI sr), .int (nI va), .ref (z 9)])), (z 2, .inl (k.1 0, 23, .inl (ta_e t))), (z 4, .inl (k.1 0, 66, .inl (ta_e (tg_step t g1 (g1 3)))))] H := hP
                have hD : va_D A [(z 0, .inr (8, [.ref (z 1), .int (nI ty), .ref (z 2), .ref (z 3), .ref (z 4), .ref (z 5), .int (nI kn), .ref (z 6), .ref (z 7), .ref (z 8), .int (nI no), .int (nI at_), .int (nI so), .int (nI sr), .int (nI va), .ref (z 9)])), (z 2, .inl (k.1 0, 23, .inl (ta_e t))), (z 4, .inl (k.1 0, 66, .inl (ta_e (tg_step t g1 (g1 3)))))] := hD
                refine lv_iload_n hx hb dX8_goes_69 rfl (lv_at hl 0 rfl) ?_
                refine ta_iconst C 2 dX8_goes_70 (by decide) ?_
                refine lv_icmp_ne (tgt := 84) hx hb dX8_goes_71 (by decide) (fun c359 => ?_) (fun c359 => ?_)
                · exact absurd c359 (by decide)
                · refine lv_aload_n hx hb dX8_goes_74 rfl (lv_at hl 3 rfl) ?_
                  refine lv_aload_n hx hb dX8_goes_75 rfl (lv_at hl 3 rfl) ?_
                  refine ta_get C hP 0 inlX8 rfl rfl 4 (by decide) tw_128 rfl dX8_goes_76 ?_
                  refine ta_iconst C 3 dX8_goes_79 (by decide) ?_
                  refine ta_iald C hP 2 rfl (i := 3) (by omega) dX8_goes_80 ?_
                  refine ta_callVv (As := [.int (nI ((tg_step t g1 (g1 3)) 3))]) (rest0 := []) (Wr := []) C hP hD hS (c_X8_steps l D k z ty kn no at_ so sr va t (tg_step t g1 (g1 3)) ((tg_step t g1 (g1 3)) 3) (tg_ok_step _ hok1) (by rw [tg_step_k (by omega) e2 (by omega) (by omega)]; exact e3)) 0 rfl rfl rfl [0, 1, 2] [] rfl rfl (by decide) (by decide) (by decide) tw_489 tw_486 tw_5 tw_487 tw_488 ⟨by decide, by decide, rfl⟩ ⟨Nat.le_of_ble_eq_true rfl, Nat.le_of_ble_eq_true rfl⟩ ⟨Nat.zero_le _, Nat.zero_le _⟩ hl.1 rfl (Nat.le_of_ble_eq_true rfl) dX8_goes_81 (fun u361 H locs h362 hP hD hS => ?_)
                  have hP : va_P D vwCl [(z 0, .inr (8, [.ref (z 1), .int (nI ty), .ref (z 2), .ref (z 3), .ref (z 4), .ref (z 5), .int (nI kn), .ref (z 6), .ref (z 7), .ref (z 8), .int (nI no), .int (nI at_), .int (nI so), .int (nI sr), .int (nI va), .ref (z 9)])), (z 2, .inl (k.1 0, 23, .inl (ta_e t))), (z 4, .inl (k.1 0, 66, .inl (ta_e (tg_step t (tg_step t g1 (g1 3)) ((tg_step t g1 (g1 3)) 3)))))] H := hP
                  have hD : va_D A [(z 0, .inr (8, [.ref (z 1), .int (nI ty), .ref (z 2), .ref (z 3), .ref (z 4), .ref (z 5), .int (nI kn), .ref (z 6), .ref (z 7), .ref (z 8), .int (nI no), .int (nI at_), .int (nI so), .int (nI sr), .int (nI va), .ref (z 9)])), (z 2, .inl (k.1 0, 23, .inl (ta_e t))), (z 4, .inl (k.1 0, 66, .inl (ta_e (tg_step t (tg_step t g1 (g1 3)) ((tg_step t g1 (g1 3)) 3)))))] := hD
                  refine lv_iload_n hx hb dX8_goes_84 rfl (lv_at hl 0 rfl) ?_
                  refine ta_iconst C 1 dX8_goes_85 (by decide) ?_
                  refine lv_icmp_ne (tgt := 103) hx hb dX8_goes_86 (by decide) (fun c363 => ?_) (fun c363 => ?_)
                  · refine lv_iload_n hx hb dX8_goes_103 rfl (lv_at hl 0 rfl) ?_
                    refine ta_iconst C 3 dX8_goes_104 (by decide) ?_
                    refine lv_icmp_ne (tgt := 124) hx hb dX8_goes_105 (by decide) (fun c364 => ?_) (fun c364 => ?_)
                    · refine lv_iload_n hx hb dX8_goes_124 rfl (lv_at hl 0 rfl) ?_
                      refine ta_iconst C 4 dX8_goes_125 (by decide) ?_
                      refine lv_icmp_ne (tgt := 144) hx hb dX8_goes_126 (by decide) (fun c365 => ?_) (fun c365 => ?_)
                      · obtain ⟨g2, hg2⟩ : ∃ z, z = tg_step t (tg_step t g1 (g1 3)) ((tg_step t g1 (g1 3)) 3) := ⟨_, rfl⟩
                        rw [← hg2] at hP hD
                        have eact : tg_act t g1 1 = g2 := by rw [hg2, show (tg_step t g1 (g1 3)) 3 = g1 3 from tg_step_k (by omega) e2 (by omega) (by omega)]; unfold tg_act; rw [if_neg (by omega), if_neg (by omega), if_pos h4]
                        have k5 : g2 5 = g1 5 := by rw [← eact]; exact tg_act_k (by omega) e2 (by omega) (by omega) (by omega)
                        have hP : va_P D vwCl [(z 0, .inr (8, [.ref (z 1), .int (nI ty), .ref (z 2), .ref (z 3), .ref (z 4), .ref (z 5), .int (nI kn), .ref (z 6), .ref (z 7), .ref (z 8), .int (nI no), .int (nI at_), .int (nI so), .int (nI sr), .int (nI va), .ref (z 9)])), (z 2, .inl (k.1 0, 23, .inl (ta_e t))), (z 4, .inl (k.1 0, 66, .inl (ta_e g2)))] H := hP
                        have hD : va_D A [(z 0, .inr (8, [.ref (z 1), .int (nI ty), .ref (z 2), .ref (z 3), .ref (z 4), .ref (z 5), .int (nI kn), .ref (z 6), .ref (z 7), .ref (z 8), .int (nI no), .int (nI at_), .int (nI so), .int (nI sr), .int (nI va), .ref (z 9)])), (z 2, .inl (k.1 0, 23, .inl (ta_e t))), (z 4, .inl (k.1 0, 66, .inl (ta_e g2)))] := hD
                        refine lv_aload_n hx hb dX8_goes_144 rfl (lv_at hl 3 rfl) ?_
                        refine ta_get C hP 0 inlX8 rfl rfl 4 (by decide) tw_128 rfl dX8_goes_145 ?_
                        refine ta_iconst C 5 dX8_goes_148 (by decide) ?_
                        refine lv_dup2_11 hx hb dX8_goes_149 rfl rfl ?_
                        refine ta_iald C hP 2 rfl (i := 5) (by omega) dX8_goes_150 ?_
                        refine ta_iconst C 1 dX8_goes_151 (by decide) ?_
                        refine ta_isub C (a := g2 5) (b := 1) (by omega) dX8_goes_152 ?_
                        refine ta_iast C hP hD hS 2 rfl (i := 5) (v := (g2 5) - 1) (by omega) dX8_goes_153 (fun H locs hP hD hS => ?_)
                        have hP : va_P D vwCl [(z 0, .inr (8, [.ref (z 1), .int (nI ty), .ref (z 2), .ref (z 3), .ref (z 4), .ref (z 5), .int (nI kn), .ref (z 6), .ref (z 7), .ref (z 8), .int (nI no), .int (nI at_), .int (nI so), .int (nI sr), .int (nI va), .ref (z 9)])), (z 2, .inl (k.1 0, 23, .inl (ta_e t))), (z 4, .inl (k.1 0, 66, .inl (ta_e (ta_u g2 5 ((g2 5) - 1)))))] H := hP
                        have hD : va_D A [(z 0, .inr (8, [.ref (z 1), .int (nI ty), .ref (z 2), .ref (z 3), .ref (z 4), .ref (z 5), .int (nI kn), .ref (z 6), .ref (z 7), .ref (z 8), .int (nI no), .int (nI at_), .int (nI so), .int (nI sr), .int (nI va), .ref (z 9)])), (z 2, .inl (k.1 0, 23, .inl (ta_e t))), (z 4, .inl (k.1 0, 66, .inl (ta_e (ta_u g2 5 ((g2 5) - 1)))))] := hD
                        refine lv_aload_n hx hb dX8_goes_154 rfl (lv_at hl 3 rfl) ?_
                        refine ta_get C hP 0 inlX8 rfl rfl 4 (by decide) tw_128 rfl dX8_goes_155 ?_
                        refine ta_iconst C 4 dX8_goes_158 (by decide) ?_
                        refine lv_aload_n hx hb dX8_goes_159 rfl (lv_at hl 3 rfl) ?_
                        refine ta_get C hP 0 inlX8 rfl rfl 4 (by decide) tw_128 rfl dX8_goes_160 ?_
                        refine ta_iconst C 5 dX8_goes_163 (by decide) ?_
                        refine ta_iald C hP 2 rfl (i := 5) (by omega) dX8_goes_164 ?_
                        refine ta_nv (y := (g2 5) - 1) ta_us ?_
                        refine ta_ine C (a := (g2 5) - 1) (tgt := 172) (by omega) dX8_goes_165 (by decide) (fun c366 => ?_) (fun c366 => ?_)
                        · refine lv_iload_n hx hb dX8_goes_172 rfl (lv_at hl 0 rfl) ?_
                          refine ta_iast C hP hD hS 2 rfl (i := 4) (v := 2) (by omega) dX8_goes_173 (fun H locs hP hD hS => ?_)
                          have hP : va_P D vwCl [(z 0, .inr (8, [.ref (z 1), .int (nI ty), .ref (z 2), .ref (z 3), .ref (z 4), .ref (z 5), .int (nI kn), .ref (z 6), .ref (z 7), .ref (z 8), .int (nI no), .int (nI at_), .int (nI so), .int (nI sr), .int (nI va), .ref (z 9)])), (z 2, .inl (k.1 0, 23, .inl (ta_e t))), (z 4, .inl (k.1 0, 66, .inl (ta_e (ta_u (ta_u g2 5 ((g2 5) - 1)) 4 2))))] H := hP
                          have hD : va_D A [(z 0, .inr (8, [.ref (z 1), .int (nI ty), .ref (z 2), .ref (z 3), .ref (z 4), .ref (z 5), .int (nI kn), .ref (z 6), .ref (z 7), .ref (z 8), .int (nI no), .int (nI at_), .int (nI so), .int (nI sr), .int (nI va), .ref (z 9)])), (z 2, .inl (k.1 0, 23, .inl (ta_e t))), (z 4, .inl (k.1 0, 66, .inl (ta_e (ta_u (ta_u g2 5 ((g2 5) - 1)) 4 2))))] := hD
                          obtain ⟨g3, hg3⟩ : ∃ z, z = ta_u (ta_u g2 5 ((g2 5) - 1)) 4 2 := ⟨_, rfl⟩
                          rw [← hg3] at hP hD
                          have edo : tg_do t g1 1 = g3 := by unfold tg_do; rw [hg3, eact, k5, if_neg (by omega), h4]
                          have ego : tg_go t g = tg_wind t g3 1 := by unfold tg_go; rw [epre, ← ha, if_neg (by omega), edo]
                          have k1 : g3 1 = g1 1 := by rw [← edo]; exact tg_do_k (by omega) e2 (by omega) (by omega) (by omega) (by omega) (by omega)
                          have hP : va_P D vwCl [(z 0, .inr (8, [.ref (z 1), .int (nI ty), .ref (z 2), .ref (z 3), .ref (z 4), .ref (z 5), .int (nI kn), .ref (z 6), .ref (z 7), .ref (z 8), .int (nI no), .int (nI at_), .int (nI so), .int (nI sr), .int (nI va), .ref (z 9)])), (z 2, .inl (k.1 0, 23, .inl (ta_e t))), (z 4, .inl (k.1 0, 66, .inl (ta_e g3)))] H := hP
                          have hD : va_D A [(z 0, .inr (8, [.ref (z 1), .int (nI ty), .ref (z 2), .ref (z 3), .ref (z 4), .ref (z 5), .int (nI kn), .ref (z 6), .ref (z 7), .ref (z 8), .int (nI no), .int (nI at_), .int (nI so), .int (nI sr), .int (nI va), .ref (z 9)])), (z 2, .inl (k.1 0, 23, .inl (ta_e t))), (z 4, .inl (k.1 0, 66, .inl (ta_e g3)))] := hD
                          refine lv_aload_n hx hb dX8_goes_174 rfl (lv_at hl 3 rfl) ?_
                          refine ta_get C hP 0 inlX8 rfl rfl 4 (by decide) tw_128 rfl dX8_goes_175 ?_
                          refine ta_iconst C 1 dX8_goes_178 (by decide) ?_
                          refine lv_dup2_11 hx hb dX8_goes_179 rfl rfl ?_
                          refine ta_iald C hP 2 rfl (i := 1) (by omega) dX8_goes_180 ?_
                          refine ta_iconst C 1 dX8_goes_181 (by decide) ?_
                          refine ta_iadd C (a := g3 1) (b := 1) dX8_goes_182 ?_
                          refine ta_iast C hP hD hS 2 rfl (i := 1) (v := (g3 1) + 1) (by omega) dX8_goes_183 (fun H locs hP hD hS => ?_)
                          have hP : va_P D vwCl [(z 0, .inr (8, [.ref (z 1), .int (nI ty), .ref (z 2), .ref (z 3), .ref (z 4), .ref (z 5), .int (nI kn), .ref (z 6), .ref (z 7), .ref (z 8), .int (nI no), .int (nI at_), .int (nI so), .int (nI sr), .int (nI va), .ref (z 9)])), (z 2, .inl (k.1 0, 23, .inl (ta_e t))), (z 4, .inl (k.1 0, 66, .inl (ta_e (ta_u g3 1 ((g3 1) + 1)))))] H := hP
                          have hD : va_D A [(z 0, .inr (8, [.ref (z 1), .int (nI ty), .ref (z 2), .ref (z 3), .ref (z 4), .ref (z 5), .int (nI kn), .ref (z 6), .ref (z 7), .ref (z 8), .int (nI no), .int (nI at_), .int (nI so), .int (nI sr), .int (nI va), .ref (z 9)])), (z 2, .inl (k.1 0, 23, .inl (ta_e t))), (z 4, .inl (k.1 0, 66, .inl (ta_e (ta_u g3 1 ((g3 1) + 1)))))] := hD
                          refine lv_aload_n hx hb dX8_goes_184 rfl (lv_at hl 3 rfl) ?_
                          refine ta_get C hP 0 inlX8 rfl rfl 4 (by decide) tw_128 rfl dX8_goes_185 ?_
                          refine ta_iconst C 1 dX8_goes_188 (by decide) ?_
                          refine ta_iald C hP 2 rfl (i := 1) (by omega) dX8_goes_189 ?_
                          refine ta_nv (y := (g3 1) + 1) ta_us ?_
                          refine lv_aload_n hx hb dX8_goes_190 rfl (lv_at hl 3 rfl) ?_
                          refine ta_get C hP 0 inlX8 rfl rfl 2 (by decide) tw_126 rfl dX8_goes_191 ?_
                          refine ta_iconst C 2 dX8_goes_194 (by decide) ?_
                          refine ta_iald C hP 1 rfl (i := 2) (by omega) dX8_goes_195 ?_
                          refine ta_cne C (a := (g3 1) + 1) (b := t 2) (tgt := 216) (by omega) (by omega) dX8_goes_196 (by decide) (fun c367 => ?_) (fun c367 => ?_)
                          · refine lv_iload_n hx hb dX8_goes_216 rfl (lv_at hl 1 rfl) ?_
                            have e : ta_u g3 1 ((g3 1) + 1) = tg_go t g := by rw [ego]; unfold tg_wind; rw [if_neg (by omega)]
                            have ekn : nI 4294967295 = nI (tg_kn g) := by unfold tg_kn; rw [epre, ← ha]; first | rw [if_pos (by omega)] | rw [if_neg (by omega)]
                            rw [e] at hP hD
                            exact ret _ () dX8_goes_217 rfl ekn hP hD hS
                          · refine lv_aload_n hx hb dX8_goes_199 rfl (lv_at hl 3 rfl) ?_
                            refine ta_get C hP 0 inlX8 rfl rfl 4 (by decide) tw_128 rfl dX8_goes_200 ?_
                            refine ta_iconst C 1 dX8_goes_203 (by decide) ?_
                            refine ta_iconst C 0 dX8_goes_204 (by decide) ?_
                            refine ta_iast C hP hD hS 2 rfl (i := 1) (v := 0) (by omega) dX8_goes_205 (fun H locs hP hD hS => ?_)
                            have hP : va_P D vwCl [(z 0, .inr (8, [.ref (z 1), .int (nI ty), .ref (z 2), .ref (z 3), .ref (z 4), .ref (z 5), .int (nI kn), .ref (z 6), .ref (z 7), .ref (z 8), .int (nI no), .int (nI at_), .int (nI so), .int (nI sr), .int (nI va), .ref (z 9)])), (z 2, .inl (k.1 0, 23, .inl (ta_e t))), (z 4, .inl (k.1 0, 66, .inl (ta_e (ta_u (ta_u g3 1 ((g3 1) + 1)) 1 0))))] H := hP
                            have hD : va_D A [(z 0, .inr (8, [.ref (z 1), .int (nI ty), .ref (z 2), .ref (z 3), .ref (z 4), .ref (z 5), .int (nI kn), .ref (z 6), .ref (z 7), .ref (z 8), .int (nI no), .int (nI at_), .int (nI so), .int (nI sr), .int (nI va), .ref (z 9)])), (z 2, .inl (k.1 0, 23, .inl (ta_e t))), (z 4, .inl (k.1 0, 66, .inl (ta_e (ta_u (ta_u g3 1 ((g3 1) + 1)) 1 0))))] := hD
                            refine lv_aload_n hx hb dX8_goes_206 rfl (lv_at hl 3 rfl) ?_
                            refine ta_get C hP 0 inlX8 rfl rfl 4 (by decide) tw_128 rfl dX8_goes_207 ?_
                            refine ta_iconst C 0 dX8_goes_210 (by decide) ?_
                            refine lv_dup2_11 hx hb dX8_goes_211 rfl rfl ?_
                            refine ta_iald C hP 2 rfl (i := 0) (by omega) dX8_goes_212 ?_
                            refine ta_nv (y := (ta_u g3 1 ((g3 1) + 1)) 0) (ta_un (by decide)) ?_
                            refine ta_nv (y := g3 0) (ta_un (by decide)) ?_
                            refine ta_iconst C 1 dX8_goes_213 (by decide) ?_
                            refine ta_iadd C (a := g3 0) (b := 1) dX8_goes_214 ?_
                            refine ta_iast C hP hD hS 2 rfl (i := 0) (v := (g3 0) + 1) (by omega) dX8_goes_215 (fun H locs hP hD hS => ?_)
                            have hP : va_P D vwCl [(z 0, .inr (8, [.ref (z 1), .int (nI ty), .ref (z 2), .ref (z 3), .ref (z 4), .ref (z 5), .int (nI kn), .ref (z 6), .ref (z 7), .ref (z 8), .int (nI no), .int (nI at_), .int (nI so), .int (nI sr), .int (nI va), .ref (z 9)])), (z 2, .inl (k.1 0, 23, .inl (ta_e t))), (z 4, .inl (k.1 0, 66, .inl (ta_e (ta_u (ta_u (ta_u g3 1 ((g3 1) + 1)) 1 0) 0 ((g3 0) + 1)))))] H := hP
                            have hD : va_D A [(z 0, .inr (8, [.ref (z 1), .int (nI ty), .ref (z 2), .ref (z 3), .ref (z 4), .ref (z 5), .int (nI kn), .ref (z 6), .ref (z 7), .ref (z 8), .int (nI no), .int (nI at_), .int (nI so), .int (nI sr), .int (nI va), .ref (z 9)])), (z 2, .inl (k.1 0, 23, .inl (ta_e t))), (z 4, .inl (k.1 0, 66, .inl (ta_e (ta_u (ta_u (ta_u g3 1 ((g3 1) + 1)) 1 0) 0 ((g3 0) + 1)))))] := hD
                            refine lv_iload_n hx hb dX8_goes_216 rfl (lv_at hl 1 rfl) ?_
                            have e : ta_u (ta_u (ta_u g3 1 ((g3 1) + 1)) 1 0) 0 ((g3 0) + 1) = tg_go t g := by rw [ego]; unfold tg_wind; rw [if_pos (by omega), ta_uu]
                            have ekn : nI 4294967295 = nI (tg_kn g) := by unfold tg_kn; rw [epre, ← ha]; first | rw [if_pos (by omega)] | rw [if_neg (by omega)]
                            rw [e] at hP hD
                            exact ret _ () dX8_goes_217 rfl ekn hP hD hS
                        · refine ta_iconst C 4294967295 dX8_goes_168 (by decide) ?_
                          refine lv_goto (tgt := 173) hx hb dX8_goes_169 (by decide) ?_
                          refine ta_iast C hP hD hS 2 rfl (i := 4) (v := 4294967295) (by omega) dX8_goes_173 (fun H locs hP hD hS => ?_)
                          have hP : va_P D vwCl [(z 0, .inr (8, [.ref (z 1), .int (nI ty), .ref (z 2), .ref (z 3), .ref (z 4), .ref (z 5), .int (nI kn), .ref (z 6), .ref (z 7), .ref (z 8), .int (nI no), .int (nI at_), .int (nI so), .int (nI sr), .int (nI va), .ref (z 9)])), (z 2, .inl (k.1 0, 23, .inl (ta_e t))), (z 4, .inl (k.1 0, 66, .inl (ta_e (ta_u (ta_u g2 5 ((g2 5) - 1)) 4 4294967295))))] H := hP
                          have hD : va_D A [(z 0, .inr (8, [.ref (z 1), .int (nI ty), .ref (z 2), .ref (z 3), .ref (z 4), .ref (z 5), .int (nI kn), .ref (z 6), .ref (z 7), .ref (z 8), .int (nI no), .int (nI at_), .int (nI so), .int (nI sr), .int (nI va), .ref (z 9)])), (z 2, .inl (k.1 0, 23, .inl (ta_e t))), (z 4, .inl (k.1 0, 66, .inl (ta_e (ta_u (ta_u g2 5 ((g2 5) - 1)) 4 4294967295))))] := hD
                          obtain ⟨g3, hg3⟩ : ∃ z, z = ta_u (ta_u g2 5 ((g2 5) - 1)) 4 4294967295 := ⟨_, rfl⟩
                          rw [← hg3] at hP hD
                          have edo : tg_do t g1 1 = g3 := by unfold tg_do; rw [hg3, eact, k5, if_pos (by omega)]
                          have ego : tg_go t g = tg_wind t g3 1 := by unfold tg_go; rw [epre, ← ha, if_neg (by omega), edo]
                          have k1 : g3 1 = g1 1 := by rw [← edo]; exact tg_do_k (by omega) e2 (by omega) (by omega) (by omega) (by omega) (by omega)
                          have hP : va_P D vwCl [(z 0, .inr (8, [.ref (z 1), .int (nI ty), .ref (z 2), .ref (z 3), .ref (z 4), .ref (z 5), .int (nI kn), .ref (z 6), .ref (z 7), .ref (z 8), .int (nI no), .int (nI at_), .int (nI so), .int (nI sr), .int (nI va), .ref (z 9)])), (z 2, .inl (k.1 0, 23, .inl (ta_e t))), (z 4, .inl (k.1 0, 66, .inl (ta_e g3)))] H := hP
                          have hD : va_D A [(z 0, .inr (8, [.ref (z 1), .int (nI ty), .ref (z 2), .ref (z 3), .ref (z 4), .ref (z 5), .int (nI kn), .ref (z 6), .ref (z 7), .ref (z 8), .int (nI no), .int (nI at_), .int (nI so), .int (nI sr), .int (nI va), .ref (z 9)])), (z 2, .inl (k.1 0, 23, .inl (ta_e t))), (z 4, .inl (k.1 0, 66, .inl (ta_e g3)))] := hD
                          refine lv_aload_n hx hb dX8_goes_174 rfl (lv_at hl 3 rfl) ?_
                          refine ta_get C hP 0 inlX8 rfl rfl 4 (by decide) tw_128 rfl dX8_goes_175 ?_
                          refine ta_iconst C 1 dX8_goes_178 (by decide) ?_
                          refine lv_dup2_11 hx hb dX8_goes_179 rfl rfl ?_
                          refine ta_iald C hP 2 rfl (i := 1) (by omega) dX8_goes_180 ?_
                          refine ta_iconst C 1 dX8_goes_181 (by decide) ?_
                          refine ta_iadd C (a := g3 1) (b := 1) dX8_goes_182 ?_
                          refine ta_iast C hP hD hS 2 rfl (i := 1) (v := (g3 1) + 1) (by omega) dX8_goes_183 (fun H locs hP hD hS => ?_)
                          have hP : va_P D vwCl [(z 0, .inr (8, [.ref (z 1), .int (nI ty), .ref (z 2), .ref (z 3), .ref (z 4), .ref (z 5), .int (nI kn), .ref (z 6), .ref (z 7), .ref (z 8), .int (nI no), .int (nI at_), .int (nI so), .int (nI sr), .int (nI va), .ref (z 9)])), (z 2, .inl (k.1 0, 23, .inl (ta_e t))), (z 4, .inl (k.1 0, 66, .inl (ta_e (ta_u g3 1 ((g3 1) + 1)))))] H := hP
                          have hD : va_D A [(z 0, .inr (8, [.ref (z 1), .int (nI ty), .ref (z 2), .ref (z 3), .ref (z 4), .ref (z 5), .int (nI kn), .ref (z 6), .ref (z 7), .ref (z 8), .int (nI no), .int (nI at_), .int (nI so), .int (nI sr), .int (nI va), .ref (z 9)])), (z 2, .inl (k.1 0, 23, .inl (ta_e t))), (z 4, .inl (k.1 0, 66, .inl (ta_e (ta_u g3 1 ((g3 1) + 1)))))] := hD
                          refine lv_aload_n hx hb dX8_goes_184 rfl (lv_at hl 3 rfl) ?_
                          refine ta_get C hP 0 inlX8 rfl rfl 4 (by decide) tw_128 rfl dX8_goes_185 ?_
                          refine ta_iconst C 1 dX8_goes_188 (by decide) ?_
                          refine ta_iald C hP 2 rfl (i := 1) (by omega) dX8_goes_189 ?_
                          refine ta_nv (y := (g3 1) + 1) ta_us ?_
                          refine lv_aload_n hx hb dX8_goes_190 rfl (lv_at hl 3 rfl) ?_
                          refine ta_get C hP 0 inlX8 rfl rfl 2 (by decide) tw_126 rfl dX8_goes_191 ?_
                          refine ta_iconst C 2 dX8_goes_194 (by decide) ?_
                          refine ta_iald C hP 1 rfl (i := 2) (by omega) dX8_goes_195 ?_
                          refine ta_cne C (a := (g3 1) + 1) (b := t 2) (tgt := 216) (by omega) (by omega) dX8_goes_196 (by decide) (fun c368 => ?_) (fun c368 => ?_)
                          · refine lv_iload_n hx hb dX8_goes_216 rfl (lv_at hl 1 rfl) ?_
                            have e : ta_u g3 1 ((g3 1) + 1) = tg_go t g := by rw [ego]; unfold tg_wind; rw [if_neg (by omega)]
                            have ekn : nI 4294967295 = nI (tg_kn g) := by unfold tg_kn; rw [epre, ← ha]; first | rw [if_pos (by omega)] | rw [if_neg (by omega)]
                            rw [e] at hP hD
                            exact ret _ () dX8_goes_217 rfl ekn hP hD hS
                          · refine lv_aload_n hx hb dX8_goes_199 rfl (lv_at hl 3 rfl) ?_
                            refine ta_get C hP 0 inlX8 rfl rfl 4 (by decide) tw_128 rfl dX8_goes_200 ?_
                            refine ta_iconst C 1 dX8_goes_203 (by decide) ?_
                            refine ta_iconst C 0 dX8_goes_204 (by decide) ?_
                            refine ta_iast C hP hD hS 2 rfl (i := 1) (v := 0) (by omega) dX8_goes_205 (fun H locs hP hD hS => ?_)
                            have hP : va_P D vwCl [(z 0, .inr (8, [.ref (z 1), .int (nI ty), .ref (z 2), .ref (z 3), .ref (z 4), .ref (z 5), .int (nI kn), .ref (z 6), .ref (z 7), .ref (z 8), .int (nI no), .int (nI at_), .int (nI so), .int (nI sr), .int (nI va), .ref (z 9)])), (z 2, .inl (k.1 0, 23, .inl (ta_e t))), (z 4, .inl (k.1 0, 66, .inl (ta_e (ta_u (ta_u g3 1 ((g3 1) + 1)) 1 0))))] H := hP
                            have hD : va_D A [(z 0, .inr (8, [.ref (z 1), .int (nI ty), .ref (z 2), .ref (z 3), .ref (z 4), .ref (z 5), .int (nI kn), .ref (z 6), .ref (z 7), .ref (z 8), .int (nI no), .int (nI at_), .int (nI so), .int (nI sr), .int (nI va), .ref (z 9)])), (z 2, .inl (k.1 0, 23, .inl (ta_e t))), (z 4, .inl (k.1 0, 66, .inl (ta_e (ta_u (ta_u g3 1 ((g3 1) + 1)) 1 0))))] := hD
                            refine lv_aload_n hx hb dX8_goes_206 rfl (lv_at hl 3 rfl) ?_
                            refine ta_get C hP 0 inlX8 rfl rfl 4 (by decide) tw_128 rfl dX8_goes_207 ?_
                            refine ta_iconst C 0 dX8_goes_210 (by decide) ?_
                            refine lv_dup2_11 hx hb dX8_goes_211 rfl rfl ?_
                            refine ta_iald C hP 2 rfl (i := 0) (by omega) dX8_goes_212 ?_
                            refine ta_nv (y := (ta_u g3 1 ((g3 1) + 1)) 0) (ta_un (by decide)) ?_
                            refine ta_nv (y := g3 0) (ta_un (by decide)) ?_
                            refine ta_iconst C 1 dX8_goes_213 (by decide) ?_
                            refine ta_iadd C (a := g3 0) (b := 1) dX8_goes_214 ?_
                            refine ta_iast C hP hD hS 2 rfl (i := 0) (v := (g3 0) + 1) (by omega) dX8_goes_215 (fun H locs hP hD hS => ?_)
                            have hP : va_P D vwCl [(z 0, .inr (8, [.ref (z 1), .int (nI ty), .ref (z 2), .ref (z 3), .ref (z 4), .ref (z 5), .int (nI kn), .ref (z 6), .ref (z 7), .ref (z 8), .int (nI no), .int (nI at_), .int (nI so), .int (nI sr), .int (nI va), .ref (z 9)])), (z 2, .inl (k.1 0, 23, .inl (ta_e t))), (z 4, .inl (k.1 0, 66, .inl (ta_e (ta_u (ta_u (ta_u g3 1 ((g3 1) + 1)) 1 0) 0 ((g3 0) + 1)))))] H := hP
                            have hD : va_D A [(z 0, .inr (8, [.ref (z 1), .int (nI ty), .ref (z 2), .ref (z 3), .ref (z 4), .ref (z 5), .int (nI kn), .ref (z 6), .ref (z 7), .ref (z 8), .int (nI no), .int (nI at_), .int (nI so), .int (nI sr), .int (nI va), .ref (z 9)])), (z 2, .inl (k.1 0, 23, .inl (ta_e t))), (z 4, .inl (k.1 0, 66, .inl (ta_e (ta_u (ta_u (ta_u g3 1 ((g3 1) + 1)) 1 0) 0 ((g3 0) + 1)))))] := hD
                            refine lv_iload_n hx hb dX8_goes_216 rfl (lv_at hl 1 rfl) ?_
                            have e : ta_u (ta_u (ta_u g3 1 ((g3 1) + 1)) 1 0) 0 ((g3 0) + 1) = tg_go t g := by rw [ego]; unfold tg_wind; rw [if_pos (by omega), ta_uu]
                            have ekn : nI 4294967295 = nI (tg_kn g) := by unfold tg_kn; rw [epre, ← ha]; first | rw [if_pos (by omega)] | rw [if_neg (by omega)]
                            rw [e] at hP hD
                            exact ret _ () dX8_goes_217 rfl ekn hP hD hS
                      · exact absurd c365 (by decide)
                    · exact absurd c364 (by decide)
                  · exact absurd c363 (by decide)
        · refine ta_nv (y := 3) h4 ?_
          refine lv_istore_n (lv' := [(3, .int (nI 3)), (2, .int (nI 4294967295)), (1, .int (nI 1)), (0, .ref (z 0))]) hx hb dX8_goes_44 rfl hl (by decide) rfl (fun ls hl => ?_)
          refine lv_iload_n hx hb dX8_goes_45 rfl (lv_at hl 0 rfl) ?_
          refine ta_iconst C 4294967295 dX8_goes_46 (by decide) ?_
          refine lv_icmp_eq (tgt := 174) hx hb dX8_goes_47 (by decide) (fun c369 => ?_) (fun c369 => ?_)
          · exact absurd c369 (by decide)
          · refine lv_iload_n hx hb dX8_goes_50 rfl (lv_at hl 0 rfl) ?_
            refine lv_if_eq (tgt := 59) hx hb dX8_goes_51 (by decide) (fun c370 => ?_) (fun c370 => ?_)
            · exact absurd c370 (by decide)
            · refine lv_iload_n hx hb dX8_goes_54 rfl (lv_at hl 0 rfl) ?_
              refine ta_iconst C 2 dX8_goes_55 (by decide) ?_
              refine lv_icmp_ne (tgt := 69) hx hb dX8_goes_56 (by decide) (fun c371 => ?_) (fun c371 => ?_)
              · refine lv_iload_n hx hb dX8_goes_69 rfl (lv_at hl 0 rfl) ?_
                refine ta_iconst C 2 dX8_goes_70 (by decide) ?_
                refine lv_icmp_ne (tgt := 84) hx hb dX8_goes_71 (by decide) (fun c372 => ?_) (fun c372 => ?_)
                · refine lv_iload_n hx hb dX8_goes_84 rfl (lv_at hl 0 rfl) ?_
                  refine ta_iconst C 1 dX8_goes_85 (by decide) ?_
                  refine lv_icmp_ne (tgt := 103) hx hb dX8_goes_86 (by decide) (fun c373 => ?_) (fun c373 => ?_)
                  · refine lv_iload_n hx hb dX8_goes_103 rfl (lv_at hl 0 rfl) ?_
                    refine ta_iconst C 3 dX8_goes_104 (by decide) ?_
                    refine lv_icmp_ne (tgt := 124) hx hb dX8_goes_105 (by decide) (fun c374 => ?_) (fun c374 => ?_)
                    · exact absurd c374 (by decide)
                    · refine lv_aload_n hx hb dX8_goes_108 rfl (lv_at hl 3 rfl) ?_
                      refine ta_get C hP 0 inlX8 rfl rfl 4 (by decide) tw_128 rfl dX8_goes_109 ?_
                      refine ta_iconst C 3 dX8_goes_112 (by decide) ?_
                      refine lv_aload_n hx hb dX8_goes_113 rfl (lv_at hl 3 rfl) ?_
                      refine ta_get C hP 0 inlX8 rfl rfl 4 (by decide) tw_128 rfl dX8_goes_114 ?_
                      refine ta_iconst C 3 dX8_goes_117 (by decide) ?_
                      refine ta_iald C hP 2 rfl (i := 3) (by omega) dX8_goes_118 ?_
                      refine ta_iconst C 1 dX8_goes_119 (by decide) ?_
                      refine ta_iadd C (a := g1 3) (b := 1) dX8_goes_120 ?_
                      refine ta_iconst C 4 dX8_goes_121 (by decide) ?_
                      refine ta_irem C (a := (g1 3) + 1) (b := 4) (by omega) (by omega) (by omega) dX8_goes_122 ?_
                      refine ta_iast C hP hD hS 2 rfl (i := 3) (v := ((g1 3) + 1) % 4) (by omega) dX8_goes_123 (fun H locs hP hD hS => ?_)
                      have hP : va_P D vwCl [(z 0, .inr (8, [.ref (z 1), .int (nI ty), .ref (z 2), .ref (z 3), .ref (z 4), .ref (z 5), .int (nI kn), .ref (z 6), .ref (z 7), .ref (z 8), .int (nI no), .int (nI at_), .int (nI so), .int (nI sr), .int (nI va), .ref (z 9)])), (z 2, .inl (k.1 0, 23, .inl (ta_e t))), (z 4, .inl (k.1 0, 66, .inl (ta_e (ta_u g1 3 (((g1 3) + 1) % 4)))))] H := hP
                      have hD : va_D A [(z 0, .inr (8, [.ref (z 1), .int (nI ty), .ref (z 2), .ref (z 3), .ref (z 4), .ref (z 5), .int (nI kn), .ref (z 6), .ref (z 7), .ref (z 8), .int (nI no), .int (nI at_), .int (nI so), .int (nI sr), .int (nI va), .ref (z 9)])), (z 2, .inl (k.1 0, 23, .inl (ta_e t))), (z 4, .inl (k.1 0, 66, .inl (ta_e (ta_u g1 3 (((g1 3) + 1) % 4)))))] := hD
                      refine lv_iload_n hx hb dX8_goes_124 rfl (lv_at hl 0 rfl) ?_
                      refine ta_iconst C 4 dX8_goes_125 (by decide) ?_
                      refine lv_icmp_ne (tgt := 144) hx hb dX8_goes_126 (by decide) (fun c375 => ?_) (fun c375 => ?_)
                      · obtain ⟨g2, hg2⟩ : ∃ z, z = ta_u g1 3 (((g1 3) + 1) % 4) := ⟨_, rfl⟩
                        rw [← hg2] at hP hD
                        have eact : tg_act t g1 1 = g2 := by rw [hg2]; unfold tg_act; rw [if_neg (by omega), if_neg (by omega), if_neg (by omega), if_pos h4]
                        have k5 : g2 5 = g1 5 := by rw [← eact]; exact tg_act_k (by omega) e2 (by omega) (by omega) (by omega)
                        have hP : va_P D vwCl [(z 0, .inr (8, [.ref (z 1), .int (nI ty), .ref (z 2), .ref (z 3), .ref (z 4), .ref (z 5), .int (nI kn), .ref (z 6), .ref (z 7), .ref (z 8), .int (nI no), .int (nI at_), .int (nI so), .int (nI sr), .int (nI va), .ref (z 9)])), (z 2, .inl (k.1 0, 23, .inl (ta_e t))), (z 4, .inl (k.1 0, 66, .inl (ta_e g2)))] H := hP
                        have hD : va_D A [(z 0, .inr (8, [.ref (z 1), .int (nI ty), .ref (z 2), .ref (z 3), .ref (z 4), .ref (z 5), .int (nI kn), .ref (z 6), .ref (z 7), .ref (z 8), .int (nI no), .int (nI at_), .int (nI so), .int (nI sr), .int (nI va), .ref (z 9)])), (z 2, .inl (k.1 0, 23, .inl (ta_e t))), (z 4, .inl (k.1 0, 66, .inl (ta_e g2)))] := hD
                        refine lv_aload_n hx hb dX8_goes_144 rfl (lv_at hl 3 rfl) ?_
                        refine ta_get C hP 0 inlX8 rfl rfl 4 (by decide) tw_128 rfl dX8_goes_145 ?_
                        refine ta_iconst C 5 dX8_goes_148 (by decide) ?_
                        refine lv_dup2_11 hx hb dX8_goes_149 rfl rfl ?_
                        refine ta_iald C hP 2 rfl (i := 5) (by omega) dX8_goes_150 ?_
                        refine ta_iconst C 1 dX8_goes_151 (by decide) ?_
                        refine ta_isub C (a := g2 5) (b := 1) (by omega) dX8_goes_152 ?_
                        refine ta_iast C hP hD hS 2 rfl (i := 5) (v := (g2 5) - 1) (by omega) dX8_goes_153 (fun H locs hP hD hS => ?_)
                        have hP : va_P D vwCl [(z 0, .inr (8, [.ref (z 1), .int (nI ty), .ref (z 2), .ref (z 3), .ref (z 4), .ref (z 5), .int (nI kn), .ref (z 6), .ref (z 7), .ref (z 8), .int (nI no), .int (nI at_), .int (nI so), .int (nI sr), .int (nI va), .ref (z 9)])), (z 2, .inl (k.1 0, 23, .inl (ta_e t))), (z 4, .inl (k.1 0, 66, .inl (ta_e (ta_u g2 5 ((g2 5) - 1)))))] H := hP
                        have hD : va_D A [(z 0, .inr (8, [.ref (z 1), .int (nI ty), .ref (z 2), .ref (z 3), .ref (z 4), .ref (z 5), .int (nI kn), .ref (z 6), .ref (z 7), .ref (z 8), .int (nI no), .int (nI at_), .int (nI so), .int (nI sr), .int (nI va), .ref (z 9)])), (z 2, .inl (k.1 0, 23, .inl (ta_e t))), (z 4, .inl (k.1 0, 66, .inl (ta_e (ta_u g2 5 ((g2 5) - 1)))))] := hD
                        refine lv_aload_n hx hb dX8_goes_154 rfl (lv_at hl 3 rfl) ?_
                        refine ta_get C hP 0 inlX8 rfl rfl 4 (by decide) tw_128 rfl dX8_goes_155 ?_
                        refine ta_iconst C 4 dX8_goes_158 (by decide) ?_
                        refine lv_aload_n hx hb dX8_goes_159 rfl (lv_at hl 3 rfl) ?_
                        refine ta_get C hP 0 inlX8 rfl rfl 4 (by decide) tw_128 rfl dX8_goes_160 ?_
                        refine ta_iconst C 5 dX8_goes_163 (by decide) ?_
                        refine ta_iald C hP 2 rfl (i := 5) (by omega) dX8_goes_164 ?_
                        refine ta_nv (y := (g2 5) - 1) ta_us ?_
                        refine ta_ine C (a := (g2 5) - 1) (tgt := 172) (by omega) dX8_goes_165 (by decide) (fun c376 => ?_) (fun c376 => ?_)
                        · refine lv_iload_n hx hb dX8_goes_172 rfl (lv_at hl 0 rfl) ?_
                          refine ta_iast C hP hD hS 2 rfl (i := 4) (v := 3) (by omega) dX8_goes_173 (fun H locs hP hD hS => ?_)
                          have hP : va_P D vwCl [(z 0, .inr (8, [.ref (z 1), .int (nI ty), .ref (z 2), .ref (z 3), .ref (z 4), .ref (z 5), .int (nI kn), .ref (z 6), .ref (z 7), .ref (z 8), .int (nI no), .int (nI at_), .int (nI so), .int (nI sr), .int (nI va), .ref (z 9)])), (z 2, .inl (k.1 0, 23, .inl (ta_e t))), (z 4, .inl (k.1 0, 66, .inl (ta_e (ta_u (ta_u g2 5 ((g2 5) - 1)) 4 3))))] H := hP
                          have hD : va_D A [(z 0, .inr (8, [.ref (z 1), .int (nI ty), .ref (z 2), .ref (z 3), .ref (z 4), .ref (z 5), .int (nI kn), .ref (z 6), .ref (z 7), .ref (z 8), .int (nI no), .int (nI at_), .int (nI so), .int (nI sr), .int (nI va), .ref (z 9)])), (z 2, .inl (k.1 0, 23, .inl (ta_e t))), (z 4, .inl (k.1 0, 66, .inl (ta_e (ta_u (ta_u g2 5 ((g2 5) - 1)) 4 3))))] := hD
                          obtain ⟨g3, hg3⟩ : ∃ z, z = ta_u (ta_u g2 5 ((g2 5) - 1)) 4 3 := ⟨_, rfl⟩
                          rw [← hg3] at hP hD
                          have edo : tg_do t g1 1 = g3 := by unfold tg_do; rw [hg3, eact, k5, if_neg (by omega), h4]
                          have ego : tg_go t g = tg_wind t g3 1 := by unfold tg_go; rw [epre, ← ha, if_neg (by omega), edo]
                          have k1 : g3 1 = g1 1 := by rw [← edo]; exact tg_do_k (by omega) e2 (by omega) (by omega) (by omega) (by omega) (by omega)
                          have hP : va_P D vwCl [(z 0, .inr (8, [.ref (z 1), .int (nI ty), .ref (z 2), .ref (z 3), .ref (z 4), .ref (z 5), .int (nI kn), .ref (z 6), .ref (z 7), .ref (z 8), .int (nI no), .int (nI at_), .int (nI so), .int (nI sr), .int (nI va), .ref (z 9)])), (z 2, .inl (k.1 0, 23, .inl (ta_e t))), (z 4, .inl (k.1 0, 66, .inl (ta_e g3)))] H := hP
                          have hD : va_D A [(z 0, .inr (8, [.ref (z 1), .int (nI ty), .ref (z 2), .ref (z 3), .ref (z 4), .ref (z 5), .int (nI kn), .ref (z 6), .ref (z 7), .ref (z 8), .int (nI no), .int (nI at_), .int (nI so), .int (nI sr), .int (nI va), .ref (z 9)])), (z 2, .inl (k.1 0, 23, .inl (ta_e t))), (z 4, .inl (k.1 0, 66, .inl (ta_e g3)))] := hD
                          refine lv_aload_n hx hb dX8_goes_174 rfl (lv_at hl 3 rfl) ?_
                          refine ta_get C hP 0 inlX8 rfl rfl 4 (by decide) tw_128 rfl dX8_goes_175 ?_
                          refine ta_iconst C 1 dX8_goes_178 (by decide) ?_
                          refine lv_dup2_11 hx hb dX8_goes_179 rfl rfl ?_
                          refine ta_iald C hP 2 rfl (i := 1) (by omega) dX8_goes_180 ?_
                          refine ta_iconst C 1 dX8_goes_181 (by decide) ?_
                          refine ta_iadd C (a := g3 1) (b := 1) dX8_goes_182 ?_
                          refine ta_iast C hP hD hS 2 rfl (i := 1) (v := (g3 1) + 1) (by omega) dX8_goes_183 (fun H locs hP hD hS => ?_)
                          have hP : va_P D vwCl [(z 0, .inr (8, [.ref (z 1), .int (nI ty), .ref (z 2), .ref (z 3), .ref (z 4), .ref (z 5), .int (nI kn), .ref (z 6), .ref (z 7), .ref (z 8), .int (nI no), .int (nI at_), .int (nI so), .int (nI sr), .int (nI va), .ref (z 9)])), (z 2, .inl (k.1 0, 23, .inl (ta_e t))), (z 4, .inl (k.1 0, 66, .inl (ta_e (ta_u g3 1 ((g3 1) + 1)))))] H := hP
                          have hD : va_D A [(z 0, .inr (8, [.ref (z 1), .int (nI ty), .ref (z 2), .ref (z 3), .ref (z 4), .ref (z 5), .int (nI kn), .ref (z 6), .ref (z 7), .ref (z 8), .int (nI no), .int (nI at_), .int (nI so), .int (nI sr), .int (nI va), .ref (z 9)])), (z 2, .inl (k.1 0, 23, .inl (ta_e t))), (z 4, .inl (k.1 0, 66, .inl (ta_e (ta_u g3 1 ((g3 1) + 1)))))] := hD
                          refine lv_aload_n hx hb dX8_goes_184 rfl (lv_at hl 3 rfl) ?_
                          refine ta_get C hP 0 inlX8 rfl rfl 4 (by decide) tw_128 rfl dX8_goes_185 ?_
                          refine ta_iconst C 1 dX8_goes_188 (by decide) ?_
                          refine ta_iald C hP 2 rfl (i := 1) (by omega) dX8_goes_189 ?_
                          refine ta_nv (y := (g3 1) + 1) ta_us ?_
                          refine lv_aload_n hx hb dX8_goes_190 rfl (lv_at hl 3 rfl) ?_
                          refine ta_get C hP 0 inlX8 rfl rfl 2 (by decide) tw_126 rfl dX8_goes_191 ?_
                          refine ta_iconst C 2 dX8_goes_194 (by decide) ?_
                          refine ta_iald C hP 1 rfl (i := 2) (by omega) dX8_goes_195 ?_
                          refine ta_cne C (a := (g3 1) + 1) (b := t 2) (tgt := 216) (by omega) (by omega) dX8_goes_196 (by decide) (fun c377 => ?_) (fun c377 => ?_)
                          · refine lv_iload_n hx hb dX8_goes_216 rfl (lv_at hl 1 rfl) ?_
                            have e : ta_u g3 1 ((g3 1) + 1) = tg_go t g := by rw [ego]; unfold tg_wind; rw [if_neg (by omega)]
                            have ekn : nI 4294967295 = nI (tg_kn g) := by unfold tg_kn; rw [epre, ← ha]; first | rw [if_pos (by omega)] | rw [if_neg (by omega)]
                            rw [e] at hP hD
                            exact ret _ () dX8_goes_217 rfl ekn hP hD hS
                          · refine lv_aload_n hx hb dX8_goes_199 rfl (lv_at hl 3 rfl) ?_
                            refine ta_get C hP 0 inlX8 rfl rfl 4 (by decide) tw_128 rfl dX8_goes_200 ?_
                            refine ta_iconst C 1 dX8_goes_203 (by decide) ?_
                            refine ta_iconst C 0 dX8_goes_204 (by decide) ?_
                            refine ta_iast C hP hD hS 2 rfl (i := 1) (v := 0) (by omega) dX8_goes_205 (fun H locs hP hD hS => ?_)
                            have hP : va_P D vwCl [(z 0, .inr (8, [.ref (z 1), .int (nI ty), .ref (z 2), .ref (z 3), .ref (z 4), .ref (z 5), .int (nI kn), .ref (z 6), .ref (z 7), .ref (z 8), .int (nI no), .int (nI at_), .int (nI so), .int (nI sr), .int (nI va), .ref (z 9)])), (z 2, .inl (k.1 0, 23, .inl (ta_e t))), (z 4, .inl (k.1 0, 66, .inl (ta_e (ta_u (ta_u g3 1 ((g3 1) + 1)) 1 0))))] H := hP
                            have hD : va_D A [(z 0, .inr (8, [.ref (z 1), .int (nI ty), .ref (z 2), .ref (z 3), .ref (z 4), .ref (z 5), .int (nI kn), .ref (z 6), .ref (z 7), .ref (z 8), .int (nI no), .int (nI at_), .int (nI so), .int (nI sr), .int (nI va), .ref (z 9)])), (z 2, .inl (k.1 0, 23, .inl (ta_e t))), (z 4, .inl (k.1 0, 66, .inl (ta_e (ta_u (ta_u g3 1 ((g3 1) + 1)) 1 0))))] := hD
                            refine lv_aload_n hx hb dX8_goes_206 rfl (lv_at hl 3 rfl) ?_
                            refine ta_get C hP 0 inlX8 rfl rfl 4 (by decide) tw_128 rfl dX8_goes_207 ?_
                            refine ta_iconst C 0 dX8_goes_210 (by decide) ?_
                            refine lv_dup2_11 hx hb dX8_goes_211 rfl rfl ?_
                            refine ta_iald C hP 2 rfl (i := 0) (by omega) dX8_goes_212 ?_
                            refine ta_nv (y := (ta_u g3 1 ((g3 1) + 1)) 0) (ta_un (by decide)) ?_
                            refine ta_nv (y := g3 0) (ta_un (by decide)) ?_
                            refine ta_iconst C 1 dX8_goes_213 (by decide) ?_
                            refine ta_iadd C (a := g3 0) (b := 1) dX8_goes_214 ?_
                            refine ta_iast C hP hD hS 2 rfl (i := 0) (v := (g3 0) + 1) (by omega) dX8_goes_215 (fun H locs hP hD hS => ?_)
                            have hP : va_P D vwCl [(z 0, .inr (8, [.ref (z 1), .int (nI ty), .ref (z 2), .ref (z 3), .ref (z 4), .ref (z 5), .int (nI kn), .ref (z 6), .ref (z 7), .ref (z 8), .int (nI no), .int (nI at_), .int (nI so), .int (nI sr), .int (nI va), .ref (z 9)])), (z 2, .inl (k.1 0, 23, .inl (ta_e t))), (z 4, .inl (k.1 0, 66, .inl (ta_e (ta_u (ta_u (ta_u g3 1 ((g3 1) + 1)) 1 0) 0 ((g3 0) + 1)))))] H := hP
                            have hD : va_D A [(z 0, .inr (8, [.ref (z 1), .int (nI ty), .ref (z 2), .ref (z 3), .ref (z 4), .ref (z 5), .int (nI kn), .ref (z 6), .ref (z 7), .ref (z 8), .int (nI no), .int (nI at_), .int (nI so), .int (nI sr), .int (nI va), .ref (z 9)])), (z 2, .inl (k.1 0, 23, .inl (ta_e t))), (z 4, .inl (k.1 0, 66, .inl (ta_e (ta_u (ta_u (ta_u g3 1 ((g3 1) + 1)) 1 0) 0 ((g3 0) + 1)))))] := hD
                            refine lv_iload_n hx hb dX8_goes_216 rfl (lv_at hl 1 rfl) ?_
                            have e : ta_u (ta_u (ta_u g3 1 ((g3 1) + 1)) 1 0) 0 ((g3 0) + 1) = tg_go t g := by rw [ego]; unfold tg_wind; rw [if_pos (by omega), ta_uu]
                            have ekn : nI 4294967295 = nI (tg_kn g) := by unfold tg_kn; rw [epre, ← ha]; first | rw [if_pos (by omega)] | rw [if_neg (by omega)]
                            rw [e] at hP hD
                            exact ret _ () dX8_goes_217 rfl ekn hP hD hS
                        · refine ta_iconst C 4294967295 dX8_goes_168 (by decide) ?_
                          refine lv_goto (tgt := 173) hx hb dX8_goes_169 (by decide) ?_
                          refine ta_iast C hP hD hS 2 rfl (i := 4) (v := 4294967295) (by omega) dX8_goes_173 (fun H locs hP hD hS => ?_)
                          have hP : va_P D vwCl [(z 0, .inr (8, [.ref (z 1), .int (nI ty), .ref (z 2), .ref (z 3), .ref (z 4), .ref (z 5), .int (nI kn), .ref (z 6), .ref (z 7), .ref (z 8), .int (nI no), .int (nI at_), .int (nI so), .int (nI sr), .int (nI va), .ref (z 9)])), (z 2, .inl (k.1 0, 23, .inl (ta_e t))), (z 4, .inl (k.1 0, 66, .inl (ta_e (ta_u (ta_u g2 5 ((g2 5) - 1)) 4 4294967295))))] H := hP
                          have hD : va_D A [(z 0, .inr (8, [.ref (z 1), .int (nI ty), .ref (z 2), .ref (z 3), .ref (z 4), .ref (z 5), .int (nI kn), .ref (z 6), .ref (z 7), .ref (z 8), .int (nI no), .int (nI at_), .int (nI so), .int (nI sr), .int (nI va), .ref (z 9)])), (z 2, .inl (k.1 0, 23, .inl (ta_e t))), (z 4, .inl (k.1 0, 66, .inl (ta_e (ta_u (ta_u g2 5 ((g2 5) - 1)) 4 4294967295))))] := hD
                          obtain ⟨g3, hg3⟩ : ∃ z, z = ta_u (ta_u g2 5 ((g2 5) - 1)) 4 4294967295 := ⟨_, rfl⟩
                          rw [← hg3] at hP hD
                          have edo : tg_do t g1 1 = g3 := by unfold tg_do; rw [hg3, eact, k5, if_pos (by omega)]
                          have ego : tg_go t g = tg_wind t g3 1 := by unfold tg_go; rw [epre, ← ha, if_neg (by omega), edo]
                          have k1 : g3 1 = g1 1 := by rw [← edo]; exact tg_do_k (by omega) e2 (by omega) (by omega) (by omega) (by omega) (by omega)
                          have hP : va_P D vwCl [(z 0, .inr (8, [.ref (z 1), .int (nI ty), .ref (z 2), .ref (z 3), .ref (z 4), .ref (z 5), .int (nI kn), .ref (z 6), .ref (z 7), .ref (z 8), .int (nI no), .int (nI at_), .int (nI so), .int (nI sr), .int (nI va), .ref (z 9)])), (z 2, .inl (k.1 0, 23, .inl (ta_e t))), (z 4, .inl (k.1 0, 66, .inl (ta_e g3)))] H := hP
                          have hD : va_D A [(z 0, .inr (8, [.ref (z 1), .int (nI ty), .ref (z 2), .ref (z 3), .ref (z 4), .ref (z 5), .int (nI kn), .ref (z 6), .ref (z 7), .ref (z 8), .int (nI no), .int (nI at_), .int (nI so), .int (nI sr), .int (nI va), .ref (z 9)])), (z 2, .inl (k.1 0, 23, .inl (ta_e t))), (z 4, .inl (k.1 0, 66, .inl (ta_e g3)))] := hD
                          refine lv_aload_n hx hb dX8_goes_174 rfl (lv_at hl 3 rfl) ?_
                          refine ta_get C hP 0 inlX8 rfl rfl 4 (by decide) tw_128 rfl dX8_goes_175 ?_
                          refine ta_iconst C 1 dX8_goes_178 (by decide) ?_
                          refine lv_dup2_11 hx hb dX8_goes_179 rfl rfl ?_
                          refine ta_iald C hP 2 rfl (i := 1) (by omega) dX8_goes_180 ?_
                          refine ta_iconst C 1 dX8_goes_181 (by decide) ?_
                          refine ta_iadd C (a := g3 1) (b := 1) dX8_goes_182 ?_
                          refine ta_iast C hP hD hS 2 rfl (i := 1) (v := (g3 1) + 1) (by omega) dX8_goes_183 (fun H locs hP hD hS => ?_)
                          have hP : va_P D vwCl [(z 0, .inr (8, [.ref (z 1), .int (nI ty), .ref (z 2), .ref (z 3), .ref (z 4), .ref (z 5), .int (nI kn), .ref (z 6), .ref (z 7), .ref (z 8), .int (nI no), .int (nI at_), .int (nI so), .int (nI sr), .int (nI va), .ref (z 9)])), (z 2, .inl (k.1 0, 23, .inl (ta_e t))), (z 4, .inl (k.1 0, 66, .inl (ta_e (ta_u g3 1 ((g3 1) + 1)))))] H := hP
                          have hD : va_D A [(z 0, .inr (8, [.ref (z 1), .int (nI ty), .ref (z 2), .ref (z 3), .ref (z 4), .ref (z 5), .int (nI kn), .ref (z 6), .ref (z 7), .ref (z 8), .int (nI no), .int (nI at_), .int (nI so), .int (nI sr), .int (nI va), .ref (z 9)])), (z 2, .inl (k.1 0, 23, .inl (ta_e t))), (z 4, .inl (k.1 0, 66, .inl (ta_e (ta_u g3 1 ((g3 1) + 1)))))] := hD
                          refine lv_aload_n hx hb dX8_goes_184 rfl (lv_at hl 3 rfl) ?_
                          refine ta_get C hP 0 inlX8 rfl rfl 4 (by decide) tw_128 rfl dX8_goes_185 ?_
                          refine ta_iconst C 1 dX8_goes_188 (by decide) ?_
                          refine ta_iald C hP 2 rfl (i := 1) (by omega) dX8_goes_189 ?_
                          refine ta_nv (y := (g3 1) + 1) ta_us ?_
                          refine lv_aload_n hx hb dX8_goes_190 rfl (lv_at hl 3 rfl) ?_
                          refine ta_get C hP 0 inlX8 rfl rfl 2 (by decide) tw_126 rfl dX8_goes_191 ?_
                          refine ta_iconst C 2 dX8_goes_194 (by decide) ?_
                          refine ta_iald C hP 1 rfl (i := 2) (by omega) dX8_goes_195 ?_
                          refine ta_cne C (a := (g3 1) + 1) (b := t 2) (tgt := 216) (by omega) (by omega) dX8_goes_196 (by decide) (fun c378 => ?_) (fun c378 => ?_)
                          · refine lv_iload_n hx hb dX8_goes_216 rfl (lv_at hl 1 rfl) ?_
                            have e : ta_u g3 1 ((g3 1) + 1) = tg_go t g := by rw [ego]; unfold tg_wind; rw [if_neg (by omega)]
                            have ekn : nI 4294967295 = nI (tg_kn g) := by unfold tg_kn; rw [epre, ← ha]; first | rw [if_pos (by omega)] | rw [if_neg (by omega)]
                            rw [e] at hP hD
                            exact ret _ () dX8_goes_217 rfl ekn hP hD hS
                          · refine lv_aload_n hx hb dX8_goes_199 rfl (lv_at hl 3 rfl) ?_
                            refine ta_get C hP 0 inlX8 rfl rfl 4 (by decide) tw_128 rfl dX8_goes_200 ?_
                            refine ta_iconst C 1 dX8_goes_203 (by decide) ?_
                            refine ta_iconst C 0 dX8_goes_204 (by decide) ?_
                            refine ta_iast C hP hD hS 2 rfl (i := 1) (v := 0) (by omega) dX8_goes_205 (fun H locs hP hD hS => ?_)
                            have hP : va_P D vwCl [(z 0, .inr (8, [.ref (z 1), .int (nI ty), .ref (z 2), .ref (z 3), .ref (z 4), .ref (z 5), .int (nI kn), .ref (z 6), .ref (z 7), .ref (z 8), .int (nI no), .int (nI at_), .int (nI so), .int (nI sr), .int (nI va), .ref (z 9)])), (z 2, .inl (k.1 0, 23, .inl (ta_e t))), (z 4, .inl (k.1 0, 66, .inl (ta_e (ta_u (ta_u g3 1 ((g3 1) + 1)) 1 0))))] H := hP
                            have hD : va_D A [(z 0, .inr (8, [.ref (z 1), .int (nI ty), .ref (z 2), .ref (z 3), .ref (z 4), .ref (z 5), .int (nI kn), .ref (z 6), .ref (z 7), .ref (z 8), .int (nI no), .int (nI at_), .int (nI so), .int (nI sr), .int (nI va), .ref (z 9)])), (z 2, .inl (k.1 0, 23, .inl (ta_e t))), (z 4, .inl (k.1 0, 66, .inl (ta_e (ta_u (ta_u g3 1 ((g3 1) + 1)) 1 0))))] := hD
                            refine lv_aload_n hx hb dX8_goes_206 rfl (lv_at hl 3 rfl) ?_
                            refine ta_get C hP 0 inlX8 rfl rfl 4 (by decide) tw_128 rfl dX8_goes_207 ?_
                            refine ta_iconst C 0 dX8_goes_210 (by decide) ?_
                            refine lv_dup2_11 hx hb dX8_goes_211 rfl rfl ?_
                            refine ta_iald C hP 2 rfl (i := 0) (by omega) dX8_goes_212 ?_
                            refine ta_nv (y := (ta_u g3 1 ((g3 1) + 1)) 0) (ta_un (by decide)) ?_
                            refine ta_nv (y := g3 0) (ta_un (by decide)) ?_
                            refine ta_iconst C 1 dX8_goes_213 (by decide) ?_
                            refine ta_iadd C (a := g3 0) (b := 1) dX8_goes_214 ?_
                            refine ta_iast C hP hD hS 2 rfl (i := 0) (v := (g3 0) + 1) (by omega) dX8_goes_215 (fun H locs hP hD hS => ?_)
                            have hP : va_P D vwCl [(z 0, .inr (8, [.ref (z 1), .int (nI ty), .ref (z 2), .ref (z 3), .ref (z 4), .ref (z 5), .int (nI kn), .ref (z 6), .ref (z 7), .ref (z 8), .int (nI no), .int (nI at_), .int (nI so), .int (nI sr), .int (nI va), .ref (z 9)])), (z 2, .inl (k.1 0, 23, .inl (ta_e t))), (z 4, .inl (k.1 0, 66, .inl (ta_e (ta_u (ta_u (ta_u g3 1 ((g3 1) + 1)) 1 0) 0 ((g3 0) + 1)))))] H := hP
                            have hD : va_D A [(z 0, .inr (8, [.ref (z 1), .int (nI ty), .ref (z 2), .ref (z 3), .ref (z 4), .ref (z 5), .int (nI kn), .ref (z 6), .ref (z 7), .ref (z 8), .int (nI no), .int (nI at_), .int (nI so), .int (nI sr), .int (nI va), .ref (z 9)])), (z 2, .inl (k.1 0, 23, .inl (ta_e t))), (z 4, .inl (k.1 0, 66, .inl (ta_e (ta_u (ta_u (ta_u g3 1 ((g3 1) + 1)) 1 0) 0 ((g3 0) + 1)))))] := hD
                            refine lv_iload_n hx hb dX8_goes_216 rfl (lv_at hl 1 rfl) ?_
                            have e : ta_u (ta_u (ta_u g3 1 ((g3 1) + 1)) 1 0) 0 ((g3 0) + 1) = tg_go t g := by rw [ego]; unfold tg_wind; rw [if_pos (by omega), ta_uu]
                            have ekn : nI 4294967295 = nI (tg_kn g) := by unfold tg_kn; rw [epre, ← ha]; first | rw [if_pos (by omega)] | rw [if_neg (by omega)]
                            rw [e] at hP hD
                            exact ret _ () dX8_goes_217 rfl ekn hP hD hS
                      · exact absurd c375 (by decide)
                  · exact absurd c373 (by decide)
                · exact absurd c372 (by decide)
              · exact absurd c371 (by decide)
        · refine ta_nv (y := 4) h4 ?_
          refine lv_istore_n (lv' := [(3, .int (nI 4)), (2, .int (nI 4294967295)), (1, .int (nI 1)), (0, .ref (z 0))]) hx hb dX8_goes_44 rfl hl (by decide) rfl (fun ls hl => ?_)
          refine lv_iload_n hx hb dX8_goes_45 rfl (lv_at hl 0 rfl) ?_
          refine ta_iconst C 4294967295 dX8_goes_46 (by decide) ?_
          refine lv_icmp_eq (tgt := 174) hx hb dX8_goes_47 (by decide) (fun c379 => ?_) (fun c379 => ?_)
          · exact absurd c379 (by decide)
          · refine lv_iload_n hx hb dX8_goes_50 rfl (lv_at hl 0 rfl) ?_
            refine lv_if_eq (tgt := 59) hx hb dX8_goes_51 (by decide) (fun c380 => ?_) (fun c380 => ?_)
            · exact absurd c380 (by decide)
            · refine lv_iload_n hx hb dX8_goes_54 rfl (lv_at hl 0 rfl) ?_
              refine ta_iconst C 2 dX8_goes_55 (by decide) ?_
              refine lv_icmp_ne (tgt := 69) hx hb dX8_goes_56 (by decide) (fun c381 => ?_) (fun c381 => ?_)
              · refine lv_iload_n hx hb dX8_goes_69 rfl (lv_at hl 0 rfl) ?_
                refine ta_iconst C 2 dX8_goes_70 (by decide) ?_
                refine lv_icmp_ne (tgt := 84) hx hb dX8_goes_71 (by decide) (fun c382 => ?_) (fun c382 => ?_)
                · refine lv_iload_n hx hb dX8_goes_84 rfl (lv_at hl 0 rfl) ?_
                  refine ta_iconst C 1 dX8_goes_85 (by decide) ?_
                  refine lv_icmp_ne (tgt := 103) hx hb dX8_goes_86 (by decide) (fun c383 => ?_) (fun c383 => ?_)
                  · refine lv_iload_n hx hb dX8_goes_103 rfl (lv_at hl 0 rfl) ?_
                    refine ta_iconst C 3 dX8_goes_104 (by decide) ?_
                    refine lv_icmp_ne (tgt := 124) hx hb dX8_goes_105 (by decide) (fun c384 => ?_) (fun c384 => ?_)
                    · refine lv_iload_n hx hb dX8_goes_124 rfl (lv_at hl 0 rfl) ?_
                      refine ta_iconst C 4 dX8_goes_125 (by decide) ?_
                      refine lv_icmp_ne (tgt := 144) hx hb dX8_goes_126 (by decide) (fun c385 => ?_) (fun c385 => ?_)
                      · exact absurd c385 (by decide)
                      · refine lv_aload_n hx hb dX8_goes_129 rfl (lv_at hl 3 rfl) ?_
                        refine ta_get C hP 0 inlX8 rfl rfl 4 (by decide) tw_128 rfl dX8_goes_130 ?_
                        refine ta_bipush C 24 dX8_goes_133 (by decide) ?_
                        refine lv_iload_n hx hb dX8_goes_135 rfl (lv_at hl 2 rfl) ?_
                        refine ta_iadd C (a := 24) (b := 1) dX8_goes_136 ?_
                        refine lv_dup2_11 hx hb dX8_goes_137 rfl rfl ?_
                        refine ta_iald C hP 2 rfl (i := 25) (by omega) dX8_goes_138 ?_
                        refine ta_iconst C 1 dX8_goes_139 (by decide) ?_
                        refine ta_iadd C (a := g1 25) (b := 1) dX8_goes_140 ?_
                        refine ta_iast C hP hD hS 2 rfl (i := 25) (v := (g1 25) + 1) (by omega) dX8_goes_141 (fun H locs hP hD hS => ?_)
                        have hP : va_P D vwCl [(z 0, .inr (8, [.ref (z 1), .int (nI ty), .ref (z 2), .ref (z 3), .ref (z 4), .ref (z 5), .int (nI kn), .ref (z 6), .ref (z 7), .ref (z 8), .int (nI no), .int (nI at_), .int (nI so), .int (nI sr), .int (nI va), .ref (z 9)])), (z 2, .inl (k.1 0, 23, .inl (ta_e t))), (z 4, .inl (k.1 0, 66, .inl (ta_e (ta_u g1 25 ((g1 25) + 1)))))] H := hP
                        have hD : va_D A [(z 0, .inr (8, [.ref (z 1), .int (nI ty), .ref (z 2), .ref (z 3), .ref (z 4), .ref (z 5), .int (nI kn), .ref (z 6), .ref (z 7), .ref (z 8), .int (nI no), .int (nI at_), .int (nI so), .int (nI sr), .int (nI va), .ref (z 9)])), (z 2, .inl (k.1 0, 23, .inl (ta_e t))), (z 4, .inl (k.1 0, 66, .inl (ta_e (ta_u g1 25 ((g1 25) + 1)))))] := hD
                        refine lv_iload_n hx hb dX8_goes_142 rfl (lv_at hl 2 rfl) ?_
                        refine lv_istore_n (lv' := [(2, .int (nI 1)), (3, .int (nI 4)), (1, .int (nI 1)), (0, .ref (z 0))]) hx hb dX8_goes_143 rfl hl (by decide) rfl (fun ls hl => ?_)
                        obtain ⟨g2, hg2⟩ : ∃ z, z = ta_u g1 25 ((g1 25) + 1) := ⟨_, rfl⟩
                        rw [← hg2] at hP hD
                        have eact : tg_act t g1 1 = g2 := by rw [hg2]; unfold tg_act; rw [if_neg (by omega), if_neg (by omega), if_neg (by omega), if_neg (by omega)]
                        have k5 : g2 5 = g1 5 := by rw [← eact]; exact tg_act_k (by omega) e2 (by omega) (by omega) (by omega)
                        have hP : va_P D vwCl [(z 0, .inr (8, [.ref (z 1), .int (nI ty), .ref (z 2), .ref (z 3), .ref (z 4), .ref (z 5), .int (nI kn), .ref (z 6), .ref (z 7), .ref (z 8), .int (nI no), .int (nI at_), .int (nI so), .int (nI sr), .int (nI va), .ref (z 9)])), (z 2, .inl (k.1 0, 23, .inl (ta_e t))), (z 4, .inl (k.1 0, 66, .inl (ta_e g2)))] H := hP
                        have hD : va_D A [(z 0, .inr (8, [.ref (z 1), .int (nI ty), .ref (z 2), .ref (z 3), .ref (z 4), .ref (z 5), .int (nI kn), .ref (z 6), .ref (z 7), .ref (z 8), .int (nI no), .int (nI at_), .int (nI so), .int (nI sr), .int (nI va), .ref (z 9)])), (z 2, .inl (k.1 0, 23, .inl (ta_e t))), (z 4, .inl (k.1 0, 66, .inl (ta_e g2)))] := hD
                        refine lv_aload_n hx hb dX8_goes_144 rfl (lv_at hl 3 rfl) ?_
                        refine ta_get C hP 0 inlX8 rfl rfl 4 (by decide) tw_128 rfl dX8_goes_145 ?_
                        refine ta_iconst C 5 dX8_goes_148 (by decide) ?_
                        refine lv_dup2_11 hx hb dX8_goes_149 rfl rfl ?_
                        refine ta_iald C hP 2 rfl (i := 5) (by omega) dX8_goes_150 ?_
                        refine ta_iconst C 1 dX8_goes_151 (by decide) ?_
                        refine ta_isub C (a := g2 5) (b := 1) (by omega) dX8_goes_152 ?_
                        refine ta_iast C hP hD hS 2 rfl (i := 5) (v := (g2 5) - 1) (by omega) dX8_goes_153 (fun H locs hP hD hS => ?_)
                        have hP : va_P D vwCl [(z 0, .inr (8, [.ref (z 1), .int (nI ty), .ref (z 2), .ref (z 3), .ref (z 4), .ref (z 5), .int (nI kn), .ref (z 6), .ref (z 7), .ref (z 8), .int (nI no), .int (nI at_), .int (nI so), .int (nI sr), .int (nI va), .ref (z 9)])), (z 2, .inl (k.1 0, 23, .inl (ta_e t))), (z 4, .inl (k.1 0, 66, .inl (ta_e (ta_u g2 5 ((g2 5) - 1)))))] H := hP
                        have hD : va_D A [(z 0, .inr (8, [.ref (z 1), .int (nI ty), .ref (z 2), .ref (z 3), .ref (z 4), .ref (z 5), .int (nI kn), .ref (z 6), .ref (z 7), .ref (z 8), .int (nI no), .int (nI at_), .int (nI so), .int (nI sr), .int (nI va), .ref (z 9)])), (z 2, .inl (k.1 0, 23, .inl (ta_e t))), (z 4, .inl (k.1 0, 66, .inl (ta_e (ta_u g2 5 ((g2 5) - 1)))))] := hD
                        refine lv_aload_n hx hb dX8_goes_154 rfl (lv_at hl 3 rfl) ?_
                        refine ta_get C hP 0 inlX8 rfl rfl 4 (by decide) tw_128 rfl dX8_goes_155 ?_
                        refine ta_iconst C 4 dX8_goes_158 (by decide) ?_
                        refine lv_aload_n hx hb dX8_goes_159 rfl (lv_at hl 3 rfl) ?_
                        refine ta_get C hP 0 inlX8 rfl rfl 4 (by decide) tw_128 rfl dX8_goes_160 ?_
                        refine ta_iconst C 5 dX8_goes_163 (by decide) ?_
                        refine ta_iald C hP 2 rfl (i := 5) (by omega) dX8_goes_164 ?_
                        refine ta_nv (y := (g2 5) - 1) ta_us ?_
                        refine ta_ine C (a := (g2 5) - 1) (tgt := 172) (by omega) dX8_goes_165 (by decide) (fun c386 => ?_) (fun c386 => ?_)
                        · refine lv_iload_n hx hb dX8_goes_172 rfl (lv_at hl 1 rfl) ?_
                          refine ta_iast C hP hD hS 2 rfl (i := 4) (v := 4) (by omega) dX8_goes_173 (fun H locs hP hD hS => ?_)
                          have hP : va_P D vwCl [(z 0, .inr (8, [.ref (z 1), .int (nI ty), .ref (z 2), .ref (z 3), .ref (z 4), .ref (z 5), .int (nI kn), .ref (z 6), .ref (z 7), .ref (z 8), .int (nI no), .int (nI at_), .int (nI so), .int (nI sr), .int (nI va), .ref (z 9)])), (z 2, .inl (k.1 0, 23, .inl (ta_e t))), (z 4, .inl (k.1 0, 66, .inl (ta_e (ta_u (ta_u g2 5 ((g2 5) - 1)) 4 4))))] H := hP
                          have hD : va_D A [(z 0, .inr (8, [.ref (z 1), .int (nI ty), .ref (z 2), .ref (z 3), .ref (z 4), .ref (z 5), .int (nI kn), .ref (z 6), .ref (z 7), .ref (z 8), .int (nI no), .int (nI at_), .int (nI so), .int (nI sr), .int (nI va), .ref (z 9)])), (z 2, .inl (k.1 0, 23, .inl (ta_e t))), (z 4, .inl (k.1 0, 66, .inl (ta_e (ta_u (ta_u g2 5 ((g2 5) - 1)) 4 4))))] := hD
                          obtain ⟨g3, hg3⟩ : ∃ z, z = ta_u (ta_u g2 5 ((g2 5) - 1)) 4 4 := ⟨_, rfl⟩
                          rw [← hg3] at hP hD
                          have edo : tg_do t g1 1 = g3 := by unfold tg_do; rw [hg3, eact, k5, if_neg (by omega), h4]
                          have ego : tg_go t g = tg_wind t g3 1 := by unfold tg_go; rw [epre, ← ha, if_neg (by omega), edo]
                          have k1 : g3 1 = g1 1 := by rw [← edo]; exact tg_do_k (by omega) e2 (by omega) (by omega) (by omega) (by omega) (by omega)
                          have hP : va_P D vwCl [(z 0, .inr (8, [.ref (z 1), .int (nI ty), .ref (z 2), .ref (z 3), .ref (z 4), .ref (z 5), .int (nI kn), .ref (z 6), .ref (z 7), .ref (z 8), .int (nI no), .int (nI at_), .int (nI so), .int (nI sr), .int (nI va), .ref (z 9)])), (z 2, .inl (k.1 0, 23, .inl (ta_e t))), (z 4, .inl (k.1 0, 66, .inl (ta_e g3)))] H := hP
                          have hD : va_D A [(z 0, .inr (8, [.ref (z 1), .int (nI ty), .ref (z 2), .ref (z 3), .ref (z 4), .ref (z 5), .int (nI kn), .ref (z 6), .ref (z 7), .ref (z 8), .int (nI no), .int (nI at_), .int (nI so), .int (nI sr), .int (nI va), .ref (z 9)])), (z 2, .inl (k.1 0, 23, .inl (ta_e t))), (z 4, .inl (k.1 0, 66, .inl (ta_e g3)))] := hD
                          refine lv_aload_n hx hb dX8_goes_174 rfl (lv_at hl 3 rfl) ?_
                          refine ta_get C hP 0 inlX8 rfl rfl 4 (by decide) tw_128 rfl dX8_goes_175 ?_
                          refine ta_iconst C 1 dX8_goes_178 (by decide) ?_
                          refine lv_dup2_11 hx hb dX8_goes_179 rfl rfl ?_
                          refine ta_iald C hP 2 rfl (i := 1) (by omega) dX8_goes_180 ?_
                          refine ta_iconst C 1 dX8_goes_181 (by decide) ?_
                          refine ta_iadd C (a := g3 1) (b := 1) dX8_goes_182 ?_
                          refine ta_iast C hP hD hS 2 rfl (i := 1) (v := (g3 1) + 1) (by omega) dX8_goes_183 (fun H locs hP hD hS => ?_)
                          have hP : va_P D vwCl [(z 0, .inr (8, [.ref (z 1), .int (nI ty), .ref (z 2), .ref (z 3), .ref (z 4), .ref (z 5), .int (nI kn), .ref (z 6), .ref (z 7), .ref (z 8), .int (nI no), .int (nI at_), .int (nI so), .int (nI sr), .int (nI va), .ref (z 9)])), (z 2, .inl (k.1 0, 23, .inl (ta_e t))), (z 4, .inl (k.1 0, 66, .inl (ta_e (ta_u g3 1 ((g3 1) + 1)))))] H := hP
                          have hD : va_D A [(z 0, .inr (8, [.ref (z 1), .int (nI ty), .ref (z 2), .ref (z 3), .ref (z 4), .ref (z 5), .int (nI kn), .ref (z 6), .ref (z 7), .ref (z 8), .int (nI no), .int (nI at_), .int (nI so), .int (nI sr), .int (nI va), .ref (z 9)])), (z 2, .inl (k.1 0, 23, .inl (ta_e t))), (z 4, .inl (k.1 0, 66, .inl (ta_e (ta_u g3 1 ((g3 1) + 1)))))] := hD
                          refine lv_aload_n hx hb dX8_goes_184 rfl (lv_at hl 3 rfl) ?_
                          refine ta_get C hP 0 inlX8 rfl rfl 4 (by decide) tw_128 rfl dX8_goes_185 ?_
                          refine ta_iconst C 1 dX8_goes_188 (by decide) ?_
                          refine ta_iald C hP 2 rfl (i := 1) (by omega) dX8_goes_189 ?_
                          refine ta_nv (y := (g3 1) + 1) ta_us ?_
                          refine lv_aload_n hx hb dX8_goes_190 rfl (lv_at hl 3 rfl) ?_
                          refine ta_get C hP 0 inlX8 rfl rfl 2 (by decide) tw_126 rfl dX8_goes_191 ?_
                          refine ta_iconst C 2 dX8_goes_194 (by decide) ?_
                          refine ta_iald C hP 1 rfl (i := 2) (by omega) dX8_goes_195 ?_
                          refine ta_cne C (a := (g3 1) + 1) (b := t 2) (tgt := 216) (by omega) (by omega) dX8_goes_196 (by decide) (fun c387 => ?_) (fun c387 => ?_)
                          · refine lv_iload_n hx hb dX8_goes_216 rfl (lv_at hl 0 rfl) ?_
                            have e : ta_u g3 1 ((g3 1) + 1) = tg_go t g := by rw [ego]; unfold tg_wind; rw [if_neg (by omega)]
                            have ekn : nI 1 = nI (tg_kn g) := by unfold tg_kn; rw [epre, ← ha]; first | rw [if_pos (by omega)] | rw [if_neg (by omega)]
                            rw [e] at hP hD
                            exact ret _ () dX8_goes_217 rfl ekn hP hD hS
                          · refine lv_aload_n hx hb dX8_goes_199 rfl (lv_at hl 3 rfl) ?_
                            refine ta_get C hP 0 inlX8 rfl rfl 4 (by decide) tw_128 rfl dX8_goes_200 ?_
                            refine ta_iconst C 1 dX8_goes_203 (by decide) ?_
                            refine ta_iconst C 0 dX8_goes_204 (by decide) ?_
                            refine ta_iast C hP hD hS 2 rfl (i := 1) (v := 0) (by omega) dX8_goes_205 (fun H locs hP hD hS => ?_)
                            have hP : va_P D vwCl [(z 0, .inr (8, [.ref (z 1), .int (nI ty), .ref (z 2), .ref (z 3), .ref (z 4), .ref (z 5), .int (nI kn), .ref (z 6), .ref (z 7), .ref (z 8), .int (nI no), .int (nI at_), .int (nI so), .int (nI sr), .int (nI va), .ref (z 9)])), (z 2, .inl (k.1 0, 23, .inl (ta_e t))), (z 4, .inl (k.1 0, 66, .inl (ta_e (ta_u (ta_u g3 1 ((g3 1) + 1)) 1 0))))] H := hP
                            have hD : va_D A [(z 0, .inr (8, [.ref (z 1), .int (nI ty), .ref (z 2), .ref (z 3), .ref (z 4), .ref (z 5), .int (nI kn), .ref (z 6), .ref (z 7), .ref (z 8), .int (nI no), .int (nI at_), .int (nI so), .int (nI sr), .int (nI va), .ref (z 9)])), (z 2, .inl (k.1 0, 23, .inl (ta_e t))), (z 4, .inl (k.1 0, 66, .inl (ta_e (ta_u (ta_u g3 1 ((g3 1) + 1)) 1 0))))] := hD
                            refine lv_aload_n hx hb dX8_goes_206 rfl (lv_at hl 3 rfl) ?_
                            refine ta_get C hP 0 inlX8 rfl rfl 4 (by decide) tw_128 rfl dX8_goes_207 ?_
                            refine ta_iconst C 0 dX8_goes_210 (by decide) ?_
                            refine lv_dup2_11 hx hb dX8_goes_211 rfl rfl ?_
                            refine ta_iald C hP 2 rfl (i := 0) (by omega) dX8_goes_212 ?_
                            refine ta_nv (y := (ta_u g3 1 ((g3 1) + 1)) 0) (ta_un (by decide)) ?_
                            refine ta_nv (y := g3 0) (ta_un (by decide)) ?_
                            refine ta_iconst C 1 dX8_goes_213 (by decide) ?_
                            refine ta_iadd C (a := g3 0) (b := 1) dX8_goes_214 ?_
                            refine ta_iast C hP hD hS 2 rfl (i := 0) (v := (g3 0) + 1) (by omega) dX8_goes_215 (fun H locs hP hD hS => ?_)
                            have hP : va_P D vwCl [(z 0, .inr (8, [.ref (z 1), .int (nI ty), .ref (z 2), .ref (z 3), .ref (z 4), .ref (z 5), .int (nI kn), .ref (z 6), .ref (z 7), .ref (z 8), .int (nI no), .int (nI at_), .int (nI so), .int (nI sr), .int (nI va), .ref (z 9)])), (z 2, .inl (k.1 0, 23, .inl (ta_e t))), (z 4, .inl (k.1 0, 66, .inl (ta_e (ta_u (ta_u (ta_u g3 1 ((g3 1) + 1)) 1 0) 0 ((g3 0) + 1)))))] H := hP
                            have hD : va_D A [(z 0, .inr (8, [.ref (z 1), .int (nI ty), .ref (z 2), .ref (z 3), .ref (z 4), .ref (z 5), .int (nI kn), .ref (z 6), .ref (z 7), .ref (z 8), .int (nI no), .int (nI at_), .int (nI so), .int (nI sr), .int (nI va), .ref (z 9)])), (z 2, .inl (k.1 0, 23, .inl (ta_e t))), (z 4, .inl (k.1 0, 66, .inl (ta_e (ta_u (ta_u (ta_u g3 1 ((g3 1) + 1)) 1 0) 0 ((g3 0) + 1)))))] := hD
                            refine lv_iload_n hx hb dX8_goes_216 rfl (lv_at hl 0 rfl) ?_
                            have e : ta_u (ta_u (ta_u g3 1 ((g3 1) + 1)) 1 0) 0 ((g3 0) + 1) = tg_go t g := by rw [ego]; unfold tg_wind; rw [if_pos (by omega), ta_uu]
                            have ekn : nI 1 = nI (tg_kn g) := by unfold tg_kn; rw [epre, ← ha]; first | rw [if_pos (by omega)] | rw [if_neg (by omega)]
                            rw [e] at hP hD
                            exact ret _ () dX8_goes_217 rfl ekn hP hD hS
                        · refine ta_iconst C 4294967295 dX8_goes_168 (by decide) ?_
                          refine lv_goto (tgt := 173) hx hb dX8_goes_169 (by decide) ?_
                          refine ta_iast C hP hD hS 2 rfl (i := 4) (v := 4294967295) (by omega) dX8_goes_173 (fun H locs hP hD hS => ?_)
                          have hP : va_P D vwCl [(z 0, .inr (8, [.ref (z 1), .int (nI ty), .ref (z 2), .ref (z 3), .ref (z 4), .ref (z 5), .int (nI kn), .ref (z 6), .ref (z 7), .ref (z 8), .int (nI no), .int (nI at_), .int (nI so), .int (nI sr), .int (nI va), .ref (z 9)])), (z 2, .inl (k.1 0, 23, .inl (ta_e t))), (z 4, .inl (k.1 0, 66, .inl (ta_e (ta_u (ta_u g2 5 ((g2 5) - 1)) 4 4294967295))))] H := hP
                          have hD : va_D A [(z 0, .inr (8, [.ref (z 1), .int (nI ty), .ref (z 2), .ref (z 3), .ref (z 4), .ref (z 5), .int (nI kn), .ref (z 6), .ref (z 7), .ref (z 8), .int (nI no), .int (nI at_), .int (nI so), .int (nI sr), .int (nI va), .ref (z 9)])), (z 2, .inl (k.1 0, 23, .inl (ta_e t))), (z 4, .inl (k.1 0, 66, .inl (ta_e (ta_u (ta_u g2 5 ((g2 5) - 1)) 4 4294967295))))] := hD
                          obtain ⟨g3, hg3⟩ : ∃ z, z = ta_u (ta_u g2 5 ((g2 5) - 1)) 4 4294967295 := ⟨_, rfl⟩
                          rw [← hg3] at hP hD
                          have edo : tg_do t g1 1 = g3 := by unfold tg_do; rw [hg3, eact, k5, if_pos (by omega)]
                          have ego : tg_go t g = tg_wind t g3 1 := by unfold tg_go; rw [epre, ← ha, if_neg (by omega), edo]
                          have k1 : g3 1 = g1 1 := by rw [← edo]; exact tg_do_k (by omega) e2 (by omega) (by omega) (by omega) (by omega) (by omega)
                          have hP : va_P D vwCl [(z 0, .inr (8, [.ref (z 1), .int (nI ty), .ref (z 2), .ref (z 3), .ref (z 4), .ref (z 5), .int (nI kn), .ref (z 6), .ref (z 7), .ref (z 8), .int (nI no), .int (nI at_), .int (nI so), .int (nI sr), .int (nI va), .ref (z 9)])), (z 2, .inl (k.1 0, 23, .inl (ta_e t))), (z 4, .inl (k.1 0, 66, .inl (ta_e g3)))] H := hP
                          have hD : va_D A [(z 0, .inr (8, [.ref (z 1), .int (nI ty), .ref (z 2), .ref (z 3), .ref (z 4), .ref (z 5), .int (nI kn), .ref (z 6), .ref (z 7), .ref (z 8), .int (nI no), .int (nI at_), .int (nI so), .int (nI sr), .int (nI va), .ref (z 9)])), (z 2, .inl (k.1 0, 23, .inl (ta_e t))), (z 4, .inl (k.1 0, 66, .inl (ta_e g3)))] := hD
                          refine lv_aload_n hx hb dX8_goes_174 rfl (lv_at hl 3 rfl) ?_
                          refine ta_get C hP 0 inlX8 rfl rfl 4 (by decide) tw_128 rfl dX8_goes_175 ?_
                          refine ta_iconst C 1 dX8_goes_178 (by decide) ?_
                          refine lv_dup2_11 hx hb dX8_goes_179 rfl rfl ?_
                          refine ta_iald C hP 2 rfl (i := 1) (by omega) dX8_goes_180 ?_
                          refine ta_iconst C 1 dX8_goes_181 (by decide) ?_
                          refine ta_iadd C (a := g3 1) (b := 1) dX8_goes_182 ?_
                          refine ta_iast C hP hD hS 2 rfl (i := 1) (v := (g3 1) + 1) (by omega) dX8_goes_183 (fun H locs hP hD hS => ?_)
                          have hP : va_P D vwCl [(z 0, .inr (8, [.ref (z 1), .int (nI ty), .ref (z 2), .ref (z 3), .ref (z 4), .ref (z 5), .int (nI kn), .ref (z 6), .ref (z 7), .ref (z 8), .int (nI no), .int (nI at_), .int (nI so), .int (nI sr), .int (nI va), .ref (z 9)])), (z 2, .inl (k.1 0, 23, .inl (ta_e t))), (z 4, .inl (k.1 0, 66, .inl (ta_e (ta_u g3 1 ((g3 1) + 1)))))] H := hP
                          have hD : va_D A [(z 0, .inr (8, [.ref (z 1), .int (nI ty), .ref (z 2), .ref (z 3), .ref (z 4), .ref (z 5), .int (nI kn), .ref (z 6), .ref (z 7), .ref (z 8), .int (nI no), .int (nI at_), .int (nI so), .int (nI sr), .int (nI va), .ref (z 9)])), (z 2, .inl (k.1 0, 23, .inl (ta_e t))), (z 4, .inl (k.1 0, 66, .inl (ta_e (ta_u g3 1 ((g3 1) + 1)))))] := hD
                          refine lv_aload_n hx hb dX8_goes_184 rfl (lv_at hl 3 rfl) ?_
                          refine ta_get C hP 0 inlX8 rfl rfl 4 (by decide) tw_128 rfl dX8_goes_185 ?_
                          refine ta_iconst C 1 dX8_goes_188 (by decide) ?_
                          refine ta_iald C hP 2 rfl (i := 1) (by omega) dX8_goes_189 ?_
                          refine ta_nv (y := (g3 1) + 1) ta_us ?_
                          refine lv_aload_n hx hb dX8_goes_190 rfl (lv_at hl 3 rfl) ?_
                          refine ta_get C hP 0 inlX8 rfl rfl 2 (by decide) tw_126 rfl dX8_goes_191 ?_
                          refine ta_iconst C 2 dX8_goes_194 (by decide) ?_
                          refine ta_iald C hP 1 rfl (i := 2) (by omega) dX8_goes_195 ?_
                          refine ta_cne C (a := (g3 1) + 1) (b := t 2) (tgt := 216) (by omega) (by omega) dX8_goes_196 (by decide) (fun c388 => ?_) (fun c388 => ?_)
                          · refine lv_iload_n hx hb dX8_goes_216 rfl (lv_at hl 0 rfl) ?_
                            have e : ta_u g3 1 ((g3 1) + 1) = tg_go t g := by rw [ego]; unfold tg_wind; rw [if_neg (by omega)]
                            have ekn : nI 1 = nI (tg_kn g) := by unfold tg_kn; rw [epre, ← ha]; first | rw [if_pos (by omega)] | rw [if_neg (by omega)]
                            rw [e] at hP hD
                            exact ret _ () dX8_goes_217 rfl ekn hP hD hS
                          · refine lv_aload_n hx hb dX8_goes_199 rfl (lv_at hl 3 rfl) ?_
                            refine ta_get C hP 0 inlX8 rfl rfl 4 (by decide) tw_128 rfl dX8_goes_200 ?_
                            refine ta_iconst C 1 dX8_goes_203 (by decide) ?_
                            refine ta_iconst C 0 dX8_goes_204 (by decide) ?_
                            refine ta_iast C hP hD hS 2 rfl (i := 1) (v := 0) (by omega) dX8_goes_205 (fun H locs hP hD hS => ?_)
                            have hP : va_P D vwCl [(z 0, .inr (8, [.ref (z 1), .int (nI ty), .ref (z 2), .ref (z 3), .ref (z 4), .ref (z 5), .int (nI kn), .ref (z 6), .ref (z 7), .ref (z 8), .int (nI no), .int (nI at_), .int (nI so), .int (nI sr), .int (nI va), .ref (z 9)])), (z 2, .inl (k.1 0, 23, .inl (ta_e t))), (z 4, .inl (k.1 0, 66, .inl (ta_e (ta_u (ta_u g3 1 ((g3 1) + 1)) 1 0))))] H := hP
                            have hD : va_D A [(z 0, .inr (8, [.ref (z 1), .int (nI ty), .ref (z 2), .ref (z 3), .ref (z 4), .ref (z 5), .int (nI kn), .ref (z 6), .ref (z 7), .ref (z 8), .int (nI no), .int (nI at_), .int (nI so), .int (nI sr), .int (nI va), .ref (z 9)])), (z 2, .inl (k.1 0, 23, .inl (ta_e t))), (z 4, .inl (k.1 0, 66, .inl (ta_e (ta_u (ta_u g3 1 ((g3 1) + 1)) 1 0))))] := hD
                            refine lv_aload_n hx hb dX8_goes_206 rfl (lv_at hl 3 rfl) ?_
                            refine ta_get C hP 0 inlX8 rfl rfl 4 (by decide) tw_128 rfl dX8_goes_207 ?_
                            refine ta_iconst C 0 dX8_goes_210 (by decide) ?_
                            refine lv_dup2_11 hx hb dX8_goes_211 rfl rfl ?_
                            refine ta_iald C hP 2 rfl (i := 0) (by omega) dX8_goes_212 ?_
                            refine ta_nv (y := (ta_u g3 1 ((g3 1) + 1)) 0) (ta_un (by decide)) ?_
                            refine ta_nv (y := g3 0) (ta_un (by decide)) ?_
                            refine ta_iconst C 1 dX8_goes_213 (by decide) ?_
                            refine ta_iadd C (a := g3 0) (b := 1) dX8_goes_214 ?_
                            refine ta_iast C hP hD hS 2 rfl (i := 0) (v := (g3 0) + 1) (by omega) dX8_goes_215 (fun H locs hP hD hS => ?_)
                            have hP : va_P D vwCl [(z 0, .inr (8, [.ref (z 1), .int (nI ty), .ref (z 2), .ref (z 3), .ref (z 4), .ref (z 5), .int (nI kn), .ref (z 6), .ref (z 7), .ref (z 8), .int (nI no), .int (nI at_), .int (nI so), .int (nI sr), .int (nI va), .ref (z 9)])), (z 2, .inl (k.1 0, 23, .inl (ta_e t))), (z 4, .inl (k.1 0, 66, .inl (ta_e (ta_u (ta_u (ta_u g3 1 ((g3 1) + 1)) 1 0) 0 ((g3 0) + 1)))))] H := hP
                            have hD : va_D A [(z 0, .inr (8, [.ref (z 1), .int (nI ty), .ref (z 2), .ref (z 3), .ref (z 4), .ref (z 5), .int (nI kn), .ref (z 6), .ref (z 7), .ref (z 8), .int (nI no), .int (nI at_), .int (nI so), .int (nI sr), .int (nI va), .ref (z 9)])), (z 2, .inl (k.1 0, 23, .inl (ta_e t))), (z 4, .inl (k.1 0, 66, .inl (ta_e (ta_u (ta_u (ta_u g3 1 ((g3 1) + 1)) 1 0) 0 ((g3 0) + 1)))))] := hD
                            refine lv_iload_n hx hb dX8_goes_216 rfl (lv_at hl 0 rfl) ?_
                            have e : ta_u (ta_u (ta_u g3 1 ((g3 1) + 1)) 1 0) 0 ((g3 0) + 1) = tg_go t g := by rw [ego]; unfold tg_wind; rw [if_pos (by omega), ta_uu]
                            have ekn : nI 1 = nI (tg_kn g) := by unfold tg_kn; rw [epre, ← ha]; first | rw [if_pos (by omega)] | rw [if_neg (by omega)]
                            rw [e] at hP hD
                            exact ret _ () dX8_goes_217 rfl ekn hP hD hS
                    · exact absurd c384 (by decide)
                  · exact absurd c383 (by decide)
                · exact absurd c382 (by decide)
              · exact absurd c381 (by decide)
