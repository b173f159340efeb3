/-! more answers -/
theorem ta_swo {x : Nat} {h : Int} (hx : x < 4294967296) (hh : h < (x : Int)) : (nI x).toInt < 0 ∨ h < (nI x).toInt := by
  rcases Nat.lt_or_ge x 2147483648 with h1 | h1
  · right
    rw [nI_toInt (show x < 2 ^ 31 from h1)]
    exact hh
  · left
    have h2 := ta_neg h1 hx
    rw [Int32.lt_iff_toInt_lt] at h2
    have e : (0 : Int32).toInt = 0 := by decide
    omega
def sp_behind (t g : Nat → Nat) (n w : Nat) : Nat := if n ≤ 99 ∧ w ≤ 4 then (if w = 0 then tg_it t g n 2 else if w = 1 then tg_it t g n 3 else if w = 2 then tg_it t g n (30 + tg_it t g n 2) else tg_it t g n (24 + (w - 3))) else 4294967293
/-- the first of so many minutes, from one on, in which an army kneels -/
def tg_fst (t g : Nat → Nat) (a : Nat) : Nat → Nat → Nat
  | 0, _ => 4294967295
  | f + 1, i => if tg_kn (tg_it t g i) = a then i + 1 else tg_fst t g a f (i + 1)
theorem tg_fst_s {t g : Nat → Nat} {a f i : Nat} : tg_fst t g a (f + 1) i = if tg_kn (tg_it t g i) = a then i + 1 else tg_fst t g a f (i + 1) := rfl
theorem tg_fst_y {t g : Nat → Nat} {a f i : Nat} (h : tg_kn (tg_it t g i) = a) : tg_fst t g a (f + 1) i = i + 1 := if_pos h
theorem tg_fst_n {t g : Nat → Nat} {a f i : Nat} (h : tg_kn (tg_it t g i) ≠ a) : tg_fst t g a (f + 1) i = tg_fst t g a f (i + 1) := if_neg h
theorem tg_kn_b (g : Nat → Nat) : tg_kn g < 4294967296 := by
  unfold tg_kn
  split <;> omega
def sp_first (t g : Nat → Nat) (a : Nat) : Nat := if a < 2 then tg_fst t g a 99 0 else 4294967294
def sp_seen (t : Nat → Nat) (n c m : Nat) : Nat := if c < t 0 * t 1 then (if 1 ≤ m ∧ m ≤ 60 then (if n = 6 then 4294967291 else n + 1) else 4294967293) else 4294967294
def sp_seen_c (t : Nat → Nat) (n c m : Nat) : Prop := c < t 0 * t 1 ∧ (1 ≤ m ∧ m ≤ 60) ∧ n ≠ 6
def sp_count (t g : Nat → Nat) (n kn ty w : Nat) : Nat := if w = 0 then t 0 else if w = 1 then t 1 else if w = 2 then t 2 else if w = 3 then g 0 else if w = 4 then g 1 else if w = 5 then g 2 else if w = 6 then g 3 else if w = 7 then g 4 else if w = 8 then g 5 else if w = 9 then tg_sum (tg_mud g) 36 else if w ≤ 13 then g (16 + w) else if w = 14 then n else if w = 15 then kn else if w = 16 then ty else 4294967293
set_option maxHeartbeats 4000000 in
set_option maxRecDepth 100000 in
theorem c_X8_army (l : Launch) (D : va_G) (k : ta_C) (z : Nat → Nat) (ty : Nat) (kn : Nat) (no : Nat) (at_ : Nat) (so : Nat) (sr : Nat) (va : Nat) (t : Nat → Nat) (g : Nat → Nat) (a : Nat) (w : Nat) (hok : tg_ok t g) (hh0 : g 0 < 1073741824) (wa : a < 4294967296) (ww : w < 4294967296) : ta_Mi (S := Unit) l D k yX8_army cX8_army 3 .int 1 40 [.ref (z 0), .int (nI a), .int (nI w)] [(z 0, .inr (8, [.ref (z 1), .int (nI ty), .ref (z 2), .ref (z 3), .ref (z 4), .ref (z 5), .int (nI kn), .ref (z 6), .ref (z 7), .ref (z 8), .int (nI no), .int (nI at_), .int (nI so), .int (nI sr), .int (nI va), .ref (z 9)])), (z 4, .inl (k.1 0, 66, .inl (ta_e g)))] (fun r _ => r = nI (sp_army g a w)) (fun u => [(z 0, .inr (8, [.ref (z 1), .int (nI ty), .ref (z 2), .ref (z 3), .ref (z 4), .ref (z 5), .int (nI kn), .ref (z 6), .ref (z 7), .ref (z 8), .int (nI no), .int (nI at_), .int (nI so), .int (nI sr), .int (nI va), .ref (z 9)])), (z 4, .inl (k.1 0, 66, .inl (ta_e g)))]) := by
  refine ta_enter_i (by decide) (Nat.le_of_ble_eq_true rfl) ?_
  intro p e s m below meth c A ls Q C ret hP hD hS hl
  have C : ta_At p l D k s m ([.ref (z 0), .int (nI a), .int (nI w)] : List Value).toArray c RX8 cX8_army 3 A := C
  have hx := C.1.1
  have hb := C.1.2.1
  have hl : lv_has ls 3 [(0, .ref (z 0)), (1, .int (nI a)), (2, .int (nI w))] := hl
  obtain ⟨H, hH⟩ : ∃ H, H = s.heap := ⟨_, rfl⟩
  obtain ⟨locs, hlocs⟩ : ∃ q : List Loc, q = [] := ⟨_, rfl⟩
  have hP : va_P D vwCl [(z 0, .inr (8, [.ref (z 1), .int (nI ty), .ref (z 2), .ref (z 3), .ref (z 4), .ref (z 5), .int (nI kn), .ref (z 6), .ref (z 7), .ref (z 8), .int (nI no), .int (nI at_), .int (nI so), .int (nI sr), .int (nI va), .ref (z 9)])), (z 4, .inl (k.1 0, 66, .inl (ta_e g)))] H := by rw [hH]; exact hP
  have hS : va_S A s.heap H locs := by rw [hH, hlocs]; exact hS
  rw [← hlocs]
  suffices hgoal : W p l e ({ frames := 1, cells := 0, slots := 0, locals := 40 }) s m ([.ref (z 0), .int (nI a), .int (nI w)] : List Value).toArray below meth c H locs 0 0 Q (F0 m 0 ls []) by rw [hH] at hgoal; exact hgoal
  clear hH hlocs
  refine lv_iload_n hx hb dX8_army_0 rfl (lv_at hl 1 rfl) ?_
  refine ta_iconst C 0 dX8_army_1 (by decide) ?_
  refine ta_iconst C 1 dX8_army_2 (by decide) ?_
  refine ta_callSi (As := [.int (nI a), .int (nI 0), .int (nI 1)]) (rest0 := []) (Wr := [(z 0, .inr (8, [.ref (z 1), .int (nI ty), .ref (z 2), .ref (z 3), .ref (z 4), .ref (z 5), .int (nI kn), .ref (z 6), .ref (z 7), .ref (z 8), .int (nI no), .int (nI at_), .int (nI so), .int (nI sr), .int (nI va), .ref (z 9)])), (z 4, .inl (k.1 0, 66, .inl (ta_e g)))]) C hP hD hS (c_X8_in_w l D k a 0 1 (by omega) (by omega) (by omega)) [] [0, 1] rfl rfl (by decide) (by decide) (by decide) tw_159 tw_157 tw_5 tw_158 ⟨by decide, by decide, rfl⟩ ⟨Nat.le_of_ble_eq_true rfl, Nat.le_of_ble_eq_true rfl⟩ ⟨Nat.zero_le _, Nat.zero_le _⟩ hl.1 rfl (Nat.le_of_ble_eq_true rfl) dX8_army_3 (fun r1 u2 H locs h3 hP hD hS => ?_)
  rcases h3 with h0 | h0
  · obtain ⟨hi4, rfl⟩ := h0
    have hP : va_P D vwCl [(z 0, .inr (8, [.ref (z 1), .int (nI ty), .ref (z 2), .ref (z 3), .ref (z 4), .ref (z 5), .int (nI kn), .ref (z 6), .ref (z 7), .ref (z 8), .int (nI no), .int (nI at_), .int (nI so), .int (nI sr), .int (nI va), .ref (z 9)])), (z 4, .inl (k.1 0, 66, .inl (ta_e g)))] H := hP
    have hD : va_D A [(z 0, .inr (8, [.ref (z 1), .int (nI ty), .ref (z 2), .ref (z 3), .ref (z 4), .ref (z 5), .int (nI kn), .ref (z 6), .ref (z 7), .ref (z 8), .int (nI no), .int (nI at_), .int (nI so), .int (nI sr), .int (nI va), .ref (z 9)])), (z 4, .inl (k.1 0, 66, .inl (ta_e g)))] := hD
    refine lv_if_ne (tgt := 12) hx hb dX8_army_6 (by decide) (fun c5 => ?_) (fun c5 => ?_)
    · refine lv_iload_n hx hb dX8_army_12 rfl (lv_at hl 2 rfl) ?_
      rcases (show w = 0 ∨ w = 1 ∨ w = 2 ∨ 3 ≤ w by omega) with rfl | rfl | rfl | hout
      · refine lv_tableIn (tgt := 40) hx hb dX8_army_13 (by decide) (by decide) (off := 27) (by decide) (by decide) ?_
        refine lv_aload_n hx hb dX8_army_40 rfl (lv_at hl 0 rfl) ?_
        refine ta_get C hP 0 inlX8 rfl rfl 4 (by decide) tw_128 rfl dX8_army_41 ?_
        refine ta_bipush C 6 dX8_army_44 (by decide) ?_
        refine lv_iload_n hx hb dX8_army_46 rfl (lv_at hl 1 rfl) ?_
        refine ta_iadd C (a := 6) (b := a) dX8_army_47 ?_
        refine ta_iald C hP 1 rfl (i := 6 + a) (by omega) dX8_army_48 ?_
        have e1 : sp_army g a 0 = g (6 + a) := by unfold sp_army; (repeat' split) <;> omega
        exact ret _ () dX8_army_49 rfl (by rw [e1]) hP hD hS
      · refine lv_tableIn (tgt := 50) hx hb dX8_army_13 (by decide) (by decide) (off := 37) (by decide) (by decide) ?_
        refine lv_aload_n hx hb dX8_army_50 rfl (lv_at hl 0 rfl) ?_
        refine ta_get C hP 0 inlX8 rfl rfl 4 (by decide) tw_128 rfl dX8_army_51 ?_
        refine ta_bipush C 24 dX8_army_54 (by decide) ?_
        refine lv_iload_n hx hb dX8_army_56 rfl (lv_at hl 1 rfl) ?_
        refine ta_iadd C (a := 24) (b := a) dX8_army_57 ?_
        refine ta_iald C hP 1 rfl (i := 24 + a) (by omega) dX8_army_58 ?_
        have e1 : sp_army g a 1 = g (24 + a) := by unfold sp_army; (repeat' split) <;> omega
        exact ret _ () dX8_army_59 rfl (by rw [e1]) hP hD hS
      · refine lv_tableIn (tgt := 60) hx hb dX8_army_13 (by decide) (by decide) (off := 47) (by decide) (by decide) ?_
        refine lv_aload_n hx hb dX8_army_60 rfl (lv_at hl 0 rfl) ?_
        refine ta_get C hP 0 inlX8 rfl rfl 4 (by decide) tw_128 rfl dX8_army_61 ?_
        refine ta_iconst C 0 dX8_army_64 (by decide) ?_
        refine ta_iald C hP 1 rfl (i := 0) (by omega) dX8_army_65 ?_
        refine ta_iconst C 2 dX8_army_66 (by decide) ?_
        refine ta_irem C (a := g 0) (b := 2) (by omega) (by omega) (by omega) dX8_army_67 ?_
        refine lv_iload_n hx hb dX8_army_68 rfl (lv_at hl 1 rfl) ?_
        refine ta_cne C (a := (g 0) % 2) (b := a) (tgt := 76) (by omega) (by omega) dX8_army_69 (by decide) (fun c6 => ?_) (fun c6 => ?_)
        · refine ta_iconst C 0 dX8_army_76 (by decide) ?_
          have e1 : sp_army g a 2 = 0 := by unfold sp_army; (repeat' split) <;> omega
          exact ret _ () dX8_army_77 rfl (by rw [e1]) hP hD hS
        · refine ta_iconst C 1 dX8_army_72 (by decide) ?_
          refine lv_goto (tgt := 77) hx hb dX8_army_73 (by decide) ?_
          have e1 : sp_army g a 2 = 1 := by unfold sp_army; (repeat' split) <;> omega
          exact ret _ () dX8_army_77 rfl (by rw [e1]) hP hD hS
      · refine lv_tableOut (tgt := 78) hx hb dX8_army_13 (ta_swo (by omega) (by omega)) (by decide) ?_
        refine ta_bipush C 4294967293 dX8_army_78 (by decide) ?_
        have e1 : sp_army g a w = 4294967293 := by unfold sp_army; (repeat' split) <;> omega
        exact ret _ () dX8_army_80 rfl (by rw [e1]) hP hD hS
    · exact absurd c5 (by decide)
  · obtain ⟨hi7, rfl⟩ := h0
    have hP : va_P D vwCl [(z 0, .inr (8, [.ref (z 1), .int (nI ty), .ref (z 2), .ref (z 3), .ref (z 4), .ref (z 5), .int (nI kn), .ref (z 6), .ref (z 7), .ref (z 8), .int (nI no), .int (nI at_), .int (nI so), .int (nI sr), .int (nI va), .ref (z 9)])), (z 4, .inl (k.1 0, 66, .inl (ta_e g)))] H := hP
    have hD : va_D A [(z 0, .inr (8, [.ref (z 1), .int (nI ty), .ref (z 2), .ref (z 3), .ref (z 4), .ref (z 5), .int (nI kn), .ref (z 6), .ref (z 7), .ref (z 8), .int (nI no), .int (nI at_), .int (nI so), .int (nI sr), .int (nI va), .ref (z 9)])), (z 4, .inl (k.1 0, 66, .inl (ta_e g)))] := hD
    refine lv_if_ne (tgt := 12) hx hb dX8_army_6 (by decide) (fun c8 => ?_) (fun c8 => ?_)
    · exact absurd c8 (by decide)
    · refine ta_bipush C 4294967294 dX8_army_9 (by decide) ?_
      have e1 : sp_army g a w = 4294967294 := by unfold sp_army; (repeat' split) <;> omega
      exact ret _ () dX8_army_11 rfl (by rw [e1]) hP hD hS

set_option maxHeartbeats 4000000 in
set_option maxRecDepth 100000 in
theorem c_X8_as (l : Launch) (D : va_G) (k : ta_C) (z : Nat → Nat) (ty : Nat) (kn : Nat) (no : Nat) (at_ : Nat) (so : Nat) (sr : Nat) (va : Nat) (t : Nat → Nat) (g : Nat → Nat) (a : Nat) (kd : Nat) (hok : tg_ok t g) (hh0 : g 0 < 1073741824) (wa : a < 4294967296) (wkd : kd < 4294967296) : ta_Mi (S := Unit) l D k yX8_as cX8_as 5 .int 1 40 [.ref (z 0), .int (nI a), .int (nI kd)] [(z 0, .inr (8, [.ref (z 1), .int (nI ty), .ref (z 2), .ref (z 3), .ref (z 4), .ref (z 5), .int (nI kn), .ref (z 6), .ref (z 7), .ref (z 8), .int (nI no), .int (nI at_), .int (nI so), .int (nI sr), .int (nI va), .ref (z 9)])), (z 4, .inl (k.1 0, 66, .inl (ta_e g)))] (fun r _ => r = nI (sp_as g a kd)) (fun u => [(z 0, .inr (8, [.ref (z 1), .int (nI ty), .ref (z 2), .ref (z 3), .ref (z 4), .ref (z 5), .int (nI kn), .ref (z 6), .ref (z 7), .ref (z 8), .int (nI no), .int (nI at_), .int (nI so), .int (nI sr), .int (nI va), .ref (z 9)])), (z 4, .inl (k.1 0, 66, .inl (ta_e g)))]) := by
  refine ta_enter_i (by decide) (Nat.le_of_ble_eq_true rfl) ?_
  intro p e s m below meth c A ls Q C ret hP hD hS hl
  have C : ta_At p l D k s m ([.ref (z 0), .int (nI a), .int (nI kd)] : List Value).toArray c RX8 cX8_as 5 A := C
  have hx := C.1.1
  have hb := C.1.2.1
  have hl : lv_has ls 5 [(0, .ref (z 0)), (1, .int (nI a)), (2, .int (nI kd))] := hl
  obtain ⟨H, hH⟩ : ∃ H, H = s.heap := ⟨_, rfl⟩
  obtain ⟨locs, hlocs⟩ : ∃ q : List Loc, q = [] := ⟨_, rfl⟩
  have hP : va_P D vwCl [(z 0, .inr (8, [.ref (z 1), .int (nI ty), .ref (z 2), .ref (z 3), .ref (z 4), .ref (z 5), .int (nI kn), .ref (z 6), .ref (z 7), .ref (z 8), .int (nI no), .int (nI at_), .int (nI so), .int (nI sr), .int (nI va), .ref (z 9)])), (z 4, .inl (k.1 0, 66, .inl (ta_e g)))] H := by rw [hH]; exact hP
  have hS : va_S A s.heap H locs := by rw [hH, hlocs]; exact hS
  rw [← hlocs]
  suffices hgoal : W p l e ({ frames := 1, cells := 0, slots := 0, locals := 40 }) s m ([.ref (z 0), .int (nI a), .int (nI kd)] : List Value).toArray below meth c H locs 0 0 Q (F0 m 0 ls []) by rw [hH] at hgoal; exact hgoal
  clear hH hlocs
  refine lv_iload_n hx hb dX8_as_0 rfl (lv_at hl 1 rfl) ?_
  refine ta_iconst C 0 dX8_as_1 (by decide) ?_
  refine ta_iconst C 1 dX8_as_2 (by decide) ?_
  refine ta_callSi (As := [.int (nI a), .int (nI 0), .int (nI 1)]) (rest0 := []) (Wr := [(z 0, .inr (8, [.ref (z 1), .int (nI ty), .ref (z 2), .ref (z 3), .ref (z 4), .ref (z 5), .int (nI kn), .ref (z 6), .ref (z 7), .ref (z 8), .int (nI no), .int (nI at_), .int (nI so), .int (nI sr), .int (nI va), .ref (z 9)])), (z 4, .inl (k.1 0, 66, .inl (ta_e g)))]) C hP hD hS (c_X8_in_w l D k a 0 1 (by omega) (by omega) (by omega)) [] [0, 1] rfl rfl (by decide) (by decide) (by decide) tw_159 tw_157 tw_5 tw_158 ⟨by decide, by decide, rfl⟩ ⟨Nat.le_of_ble_eq_true rfl, Nat.le_of_ble_eq_true rfl⟩ ⟨Nat.zero_le _, Nat.zero_le _⟩ hl.1 rfl (Nat.le_of_ble_eq_true rfl) dX8_as_3 (fun r1 u2 H locs h3 hP hD hS => ?_)
  rcases h3 with h0 | h0
  · obtain ⟨hi4, rfl⟩ := h0
    have hP : va_P D vwCl [(z 0, .inr (8, [.ref (z 1), .int (nI ty), .ref (z 2), .ref (z 3), .ref (z 4), .ref (z 5), .int (nI kn), .ref (z 6), .ref (z 7), .ref (z 8), .int (nI no), .int (nI at_), .int (nI so), .int (nI sr), .int (nI va), .ref (z 9)])), (z 4, .inl (k.1 0, 66, .inl (ta_e g)))] H := hP
    have hD : va_D A [(z 0, .inr (8, [.ref (z 1), .int (nI ty), .ref (z 2), .ref (z 3), .ref (z 4), .ref (z 5), .int (nI kn), .ref (z 6), .ref (z 7), .ref (z 8), .int (nI no), .int (nI at_), .int (nI so), .int (nI sr), .int (nI va), .ref (z 9)])), (z 4, .inl (k.1 0, 66, .inl (ta_e g)))] := hD
    obtain ⟨hn8, hfgs⟩ := tg_ok_a hok (show a < 2 by have h9 := hi4; omega)
    refine lv_if_ne (tgt := 12) hx hb dX8_as_6 (by decide) (fun c5 => ?_) (fun c5 => ?_)
    · refine lv_iload_n hx hb dX8_as_12 rfl (lv_at hl 2 rfl) ?_
      refine ta_iconst C 0 dX8_as_13 (by decide) ?_
      refine ta_iconst C 5 dX8_as_14 (by decide) ?_
      refine ta_callSi (As := [.int (nI kd), .int (nI 0), .int (nI 5)]) (rest0 := []) (Wr := [(z 0, .inr (8, [.ref (z 1), .int (nI ty), .ref (z 2), .ref (z 3), .ref (z 4), .ref (z 5), .int (nI kn), .ref (z 6), .ref (z 7), .ref (z 8), .int (nI no), .int (nI at_), .int (nI so), .int (nI sr), .int (nI va), .ref (z 9)])), (z 4, .inl (k.1 0, 66, .inl (ta_e g)))]) C hP hD hS (c_X8_in_w l D k kd 0 5 (by omega) (by omega) (by omega)) [] [0, 1] rfl rfl (by decide) (by decide) (by decide) tw_159 tw_157 tw_5 tw_158 ⟨by decide, by decide, rfl⟩ ⟨Nat.le_of_ble_eq_true rfl, Nat.le_of_ble_eq_true rfl⟩ ⟨Nat.zero_le _, Nat.zero_le _⟩ hl.1 rfl (Nat.le_of_ble_eq_true rfl) dX8_as_15 (fun r6 u7 H locs h8 hP hD hS => ?_)
      rcases h8 with h0 | h0
      · obtain ⟨hi9, rfl⟩ := h0
        have hP : va_P D vwCl [(z 0, .inr (8, [.ref (z 1), .int (nI ty), .ref (z 2), .ref (z 3), .ref (z 4), .ref (z 5), .int (nI kn), .ref (z 6), .ref (z 7), .ref (z 8), .int (nI no), .int (nI at_), .int (nI so), .int (nI sr), .int (nI va), .ref (z 9)])), (z 4, .inl (k.1 0, 66, .inl (ta_e g)))] H := hP
        have hD : va_D A [(z 0, .inr (8, [.ref (z 1), .int (nI ty), .ref (z 2), .ref (z 3), .ref (z 4), .ref (z 5), .int (nI kn), .ref (z 6), .ref (z 7), .ref (z 8), .int (nI no), .int (nI at_), .int (nI so), .int (nI sr), .int (nI va), .ref (z 9)])), (z 4, .inl (k.1 0, 66, .inl (ta_e g)))] := hD
        refine lv_if_ne (tgt := 24) hx hb dX8_as_18 (by decide) (fun c10 => ?_) (fun c10 => ?_)
        · refine lv_aload_n hx hb dX8_as_24 rfl (lv_at hl 0 rfl) ?_
          refine ta_get C hP 0 inlX8 rfl rfl 4 (by decide) tw_128 rfl dX8_as_25 ?_
          refine ta_bipush C 6 dX8_as_28 (by decide) ?_
          refine lv_iload_n hx hb dX8_as_30 rfl (lv_at hl 1 rfl) ?_
          refine ta_iadd C (a := 6) (b := a) dX8_as_31 ?_
          refine ta_iald C hP 1 rfl (i := 6 + a) (by omega) dX8_as_32 ?_
          refine ta_ine C (a := g (6 + a)) (tgt := 39) (by omega) dX8_as_33 (by decide) (fun c11 => ?_) (fun c11 => ?_)
          · refine lv_aload_n hx hb dX8_as_39 rfl (lv_at hl 0 rfl) ?_
            refine ta_get C hP 0 inlX8 rfl rfl 4 (by decide) tw_128 rfl dX8_as_40 ?_
            refine lv_aload_n hx hb dX8_as_43 rfl (lv_at hl 0 rfl) ?_
            refine lv_iload_n hx hb dX8_as_44 rfl (lv_at hl 1 rfl) ?_
            refine ta_iconst C 0 dX8_as_45 (by decide) ?_
            refine ta_callVi (As := [.int (nI a), .int (nI 0)]) (rest0 := [.ref (z 4)]) (Wr := [(z 4, .inl (k.1 0, 66, .inl (ta_e g)))]) C hP hD hS (c_X8_next l D k z ty kn no at_ so sr va a 0) 0 rfl rfl rfl [0] [1] rfl rfl (by decide) (by decide) (by decide) tw_393 tw_390 tw_5 tw_391 tw_392 ⟨by decide, by decide, rfl⟩ ⟨Nat.le_of_ble_eq_true rfl, Nat.le_of_ble_eq_true rfl⟩ ⟨Nat.zero_le _, Nat.zero_le _⟩ hl.1 rfl (Nat.le_of_ble_eq_true rfl) dX8_as_46 (fun r12 u13 H locs h14 hP hD hS => ?_)
            obtain rfl := h14
            have hP : va_P D vwCl [(z 4, .inl (k.1 0, 66, .inl (ta_e g))), (z 0, .inr (8, [.ref (z 1), .int (nI ty), .ref (z 2), .ref (z 3), .ref (z 4), .ref (z 5), .int (nI kn), .ref (z 6), .ref (z 7), .ref (z 8), .int (nI no), .int (nI at_), .int (nI so), .int (nI sr), .int (nI va), .ref (z 9)]))] H := hP
            have hD : va_D A [(z 4, .inl (k.1 0, 66, .inl (ta_e g))), (z 0, .inr (8, [.ref (z 1), .int (nI ty), .ref (z 2), .ref (z 3), .ref (z 4), .ref (z 5), .int (nI kn), .ref (z 6), .ref (z 7), .ref (z 8), .int (nI no), .int (nI at_), .int (nI so), .int (nI sr), .int (nI va), .ref (z 9)]))] := hD
            refine ta_iald C hP 0 rfl (i := 8 + 8 * a + 0) (by omega) dX8_as_49 ?_
            have hf0 := hfgs 0 (by omega)
            obtain ⟨hf1, -⟩ : g (8 + 8 * a) < 50 ∧ 1 ≤ g (8 + 8 * a) % 10 := hf0
            refine ta_nv (y := g (8 + 8 * a)) (by rw [Nat.add_zero]) ?_
            refine ta_bipush C 10 dX8_as_50 (by decide) ?_
            refine ta_idiv C (a := g (8 + 8 * a)) (b := 10) (by omega) (by omega) (by omega) dX8_as_52 ?_
            refine lv_istore_n (lv' := [(3, .int (nI ((g (8 + 8 * a)) / 10))), (0, .ref (z 0)), (1, .int (nI a)), (2, .int (nI kd))]) hx hb dX8_as_53 rfl hl (by decide) rfl (fun ls hl => ?_)
            refine lv_iload_n hx hb dX8_as_54 rfl (lv_at hl 3 rfl) ?_
            refine ta_ieq C (a := kd) (tgt := 75) (by omega) dX8_as_55 (by decide) (fun c15 => ?_) (fun c15 => ?_)
            · refine ta_iconst C 1 dX8_as_75 (by decide) ?_
              refine lv_goto (tgt := 80) hx hb dX8_as_76 (by decide) ?_
              refine lv_istore (lv' := [(4, .int (nI 1)), (3, .int (nI ((g (8 + 8 * a)) / 10))), (0, .ref (z 0)), (1, .int (nI a)), (2, .int (nI kd))]) hx hb dX8_as_80 hl (by decide) rfl (fun ls hl => ?_)
              refine lv_iload hx hb dX8_as_82 (lv_at hl 0 rfl) ?_
              refine lv_if_ne (tgt := 92) hx hb dX8_as_84 (by decide) (fun c16 => ?_) (fun c16 => ?_)
              · refine lv_iload_n hx hb dX8_as_92 rfl (lv_at hl 1 rfl) ?_
                refine ta_iconst C 2 dX8_as_93 (by decide) ?_
                refine ta_cne C (a := (g (8 + 8 * a)) / 10) (b := 2) (tgt := 101) (by omega) (by omega) dX8_as_94 (by decide) (fun c17 => ?_) (fun c17 => ?_)
                · refine lv_iload_n hx hb dX8_as_101 rfl (lv_at hl 1 rfl) ?_
                  refine ta_iconst C 3 dX8_as_102 (by decide) ?_
                  refine ta_cge C (a := (g (8 + 8 * a)) / 10) (b := 3) (tgt := 110) (by omega) (by omega) dX8_as_103 (by decide) (fun c18 => ?_) (fun c18 => ?_)
                  · refine ta_iconst C 0 dX8_as_110 (by decide) ?_
                    have hP : va_P D vwCl [(z 0, .inr (8, [.ref (z 1), .int (nI ty), .ref (z 2), .ref (z 3), .ref (z 4), .ref (z 5), .int (nI kn), .ref (z 6), .ref (z 7), .ref (z 8), .int (nI no), .int (nI at_), .int (nI so), .int (nI sr), .int (nI va), .ref (z 9)])), (z 4, .inl (k.1 0, 66, .inl (ta_e g)))] H := hP.sub [1, 0] rfl
                    have hD : va_D A [(z 0, .inr (8, [.ref (z 1), .int (nI ty), .ref (z 2), .ref (z 3), .ref (z 4), .ref (z 5), .int (nI kn), .ref (z 6), .ref (z 7), .ref (z 8), .int (nI no), .int (nI at_), .int (nI so), .int (nI sr), .int (nI va), .ref (z 9)])), (z 4, .inl (k.1 0, 66, .inl (ta_e g)))] := hD.sub [1, 0] (by decide) rfl
                    have e1 : sp_as g a kd = 0 := by unfold sp_as; (repeat' split) <;> omega
                    exact ret _ () dX8_as_111 rfl (by rw [e1]) hP hD hS
                  · refine ta_iconst C 1 dX8_as_106 (by decide) ?_
                    refine lv_goto (tgt := 111) hx hb dX8_as_107 (by decide) ?_
                    have hP : va_P D vwCl [(z 0, .inr (8, [.ref (z 1), .int (nI ty), .ref (z 2), .ref (z 3), .ref (z 4), .ref (z 5), .int (nI kn), .ref (z 6), .ref (z 7), .ref (z 8), .int (nI no), .int (nI at_), .int (nI so), .int (nI sr), .int (nI va), .ref (z 9)])), (z 4, .inl (k.1 0, 66, .inl (ta_e g)))] H := hP.sub [1, 0] rfl
                    have hD : va_D A [(z 0, .inr (8, [.ref (z 1), .int (nI ty), .ref (z 2), .ref (z 3), .ref (z 4), .ref (z 5), .int (nI kn), .ref (z 6), .ref (z 7), .ref (z 8), .int (nI no), .int (nI at_), .int (nI so), .int (nI sr), .int (nI va), .ref (z 9)])), (z 4, .inl (k.1 0, 66, .inl (ta_e g)))] := hD.sub [1, 0] (by decide) rfl
                    have e1 : sp_as g a kd = 1 := by unfold sp_as; (repeat' split) <;> omega
                    exact ret _ () dX8_as_111 rfl (by rw [e1]) hP hD hS
                · refine ta_iconst C 2 dX8_as_97 (by decide) ?_
                  refine lv_goto (tgt := 111) hx hb dX8_as_98 (by decide) ?_
                  have hP : va_P D vwCl [(z 0, .inr (8, [.ref (z 1), .int (nI ty), .ref (z 2), .ref (z 3), .ref (z 4), .ref (z 5), .int (nI kn), .ref (z 6), .ref (z 7), .ref (z 8), .int (nI no), .int (nI at_), .int (nI so), .int (nI sr), .int (nI va), .ref (z 9)])), (z 4, .inl (k.1 0, 66, .inl (ta_e g)))] H := hP.sub [1, 0] rfl
                  have hD : va_D A [(z 0, .inr (8, [.ref (z 1), .int (nI ty), .ref (z 2), .ref (z 3), .ref (z 4), .ref (z 5), .int (nI kn), .ref (z 6), .ref (z 7), .ref (z 8), .int (nI no), .int (nI at_), .int (nI so), .int (nI sr), .int (nI va), .ref (z 9)])), (z 4, .inl (k.1 0, 66, .inl (ta_e g)))] := hD.sub [1, 0] (by decide) rfl
                  have e1 : sp_as g a kd = 2 := by unfold sp_as; (repeat' split) <;> omega
                  exact ret _ () dX8_as_111 rfl (by rw [e1]) hP hD hS
              · exact absurd c16 (by decide)
            · refine lv_iload_n hx hb dX8_as_58 rfl (lv_at hl 3 rfl) ?_
              refine lv_iload_n hx hb dX8_as_59 rfl (lv_at hl 0 rfl) ?_
              refine ta_iconst C 1 dX8_as_60 (by decide) ?_
              refine ta_iadd C (a := (g (8 + 8 * a)) / 10) (b := 1) dX8_as_61 ?_
              refine ta_ceq C (a := kd) (b := ((g (8 + 8 * a)) / 10) + 1) (tgt := 75) (by omega) (by omega) dX8_as_62 (by decide) (fun c19 => ?_) (fun c19 => ?_)
              · refine ta_iconst C 1 dX8_as_75 (by decide) ?_
                refine lv_goto (tgt := 80) hx hb dX8_as_76 (by decide) ?_
                refine lv_istore (lv' := [(4, .int (nI 1)), (3, .int (nI ((g (8 + 8 * a)) / 10))), (0, .ref (z 0)), (1, .int (nI a)), (2, .int (nI kd))]) hx hb dX8_as_80 hl (by decide) rfl (fun ls hl => ?_)
                refine lv_iload hx hb dX8_as_82 (lv_at hl 0 rfl) ?_
                refine lv_if_ne (tgt := 92) hx hb dX8_as_84 (by decide) (fun c20 => ?_) (fun c20 => ?_)
                · refine lv_iload_n hx hb dX8_as_92 rfl (lv_at hl 1 rfl) ?_
                  refine ta_iconst C 2 dX8_as_93 (by decide) ?_
                  refine ta_cne C (a := (g (8 + 8 * a)) / 10) (b := 2) (tgt := 101) (by omega) (by omega) dX8_as_94 (by decide) (fun c21 => ?_) (fun c21 => ?_)
                  · refine lv_iload_n hx hb dX8_as_101 rfl (lv_at hl 1 rfl) ?_
                    refine ta_iconst C 3 dX8_as_102 (by decide) ?_
                    refine ta_cge C (a := (g (8 + 8 * a)) / 10) (b := 3) (tgt := 110) (by omega) (by omega) dX8_as_103 (by decide) (fun c22 => ?_) (fun c22 => ?_)
                    · refine ta_iconst C 0 dX8_as_110 (by decide) ?_
                      have hP : va_P D vwCl [(z 0, .inr (8, [.ref (z 1), .int (nI ty), .ref (z 2), .ref (z 3), .ref (z 4), .ref (z 5), .int (nI kn), .ref (z 6), .ref (z 7), .ref (z 8), .int (nI no), .int (nI at_), .int (nI so), .int (nI sr), .int (nI va), .ref (z 9)])), (z 4, .inl (k.1 0, 66, .inl (ta_e g)))] H := hP.sub [1, 0] rfl
                      have hD : va_D A [(z 0, .inr (8, [.ref (z 1), .int (nI ty), .ref (z 2), .ref (z 3), .ref (z 4), .ref (z 5), .int (nI kn), .ref (z 6), .ref (z 7), .ref (z 8), .int (nI no), .int (nI at_), .int (nI so), .int (nI sr), .int (nI va), .ref (z 9)])), (z 4, .inl (k.1 0, 66, .inl (ta_e g)))] := hD.sub [1, 0] (by decide) rfl
                      have e1 : sp_as g a kd = 0 := by unfold sp_as; (repeat' split) <;> omega
                      exact ret _ () dX8_as_111 rfl (by rw [e1]) hP hD hS
                    · refine ta_iconst C 1 dX8_as_106 (by decide) ?_
                      refine lv_goto (tgt := 111) hx hb dX8_as_107 (by decide) ?_
                      have hP : va_P D vwCl [(z 0, .inr (8, [.ref (z 1), .int (nI ty), .ref (z 2), .ref (z 3), .ref (z 4), .ref (z 5), .int (nI kn), .ref (z 6), .ref (z 7), .ref (z 8), .int (nI no), .int (nI at_), .int (nI so), .int (nI sr), .int (nI va), .ref (z 9)])), (z 4, .inl (k.1 0, 66, .inl (ta_e g)))] H := hP.sub [1, 0] rfl
                      have hD : va_D A [(z 0, .inr (8, [.ref (z 1), .int (nI ty), .ref (z 2), .ref (z 3), .ref (z 4), .ref (z 5), .int (nI kn), .ref (z 6), .ref (z 7), .ref (z 8), .int (nI no), .int (nI at_), .int (nI so), .int (nI sr), .int (nI va), .ref (z 9)])), (z 4, .inl (k.1 0, 66, .inl (ta_e g)))] := hD.sub [1, 0] (by decide) rfl
                      have e1 : sp_as g a kd = 1 := by unfold sp_as; (repeat' split) <;> omega
                      exact ret _ () dX8_as_111 rfl (by rw [e1]) hP hD hS
                  · refine ta_iconst C 2 dX8_as_97 (by decide) ?_
                    refine lv_goto (tgt := 111) hx hb dX8_as_98 (by decide) ?_
                    have hP : va_P D vwCl [(z 0, .inr (8, [.ref (z 1), .int (nI ty), .ref (z 2), .ref (z 3), .ref (z 4), .ref (z 5), .int (nI kn), .ref (z 6), .ref (z 7), .ref (z 8), .int (nI no), .int (nI at_), .int (nI so), .int (nI sr), .int (nI va), .ref (z 9)])), (z 4, .inl (k.1 0, 66, .inl (ta_e g)))] H := hP.sub [1, 0] rfl
                    have hD : va_D A [(z 0, .inr (8, [.ref (z 1), .int (nI ty), .ref (z 2), .ref (z 3), .ref (z 4), .ref (z 5), .int (nI kn), .ref (z 6), .ref (z 7), .ref (z 8), .int (nI no), .int (nI at_), .int (nI so), .int (nI sr), .int (nI va), .ref (z 9)])), (z 4, .inl (k.1 0, 66, .inl (ta_e g)))] := hD.sub [1, 0] (by decide) rfl
                    have e1 : sp_as g a kd = 2 := by unfold sp_as; (repeat' split) <;> omega
                    exact ret _ () dX8_as_111 rfl (by rw [e1]) hP hD hS
                · exact absurd c20 (by decide)
              · refine lv_iload_n hx hb dX8_as_65 rfl (lv_at hl 3 rfl) ?_
                refine ta_iconst C 1 dX8_as_66 (by decide) ?_
                refine ta_cne C (a := kd) (b := 1) (tgt := 79) (by omega) (by omega) dX8_as_67 (by decide) (fun c23 => ?_) (fun c23 => ?_)
                · refine ta_iconst C 0 dX8_as_79 (by decide) ?_
                  refine lv_istore (lv' := [(4, .int (nI 0)), (3, .int (nI ((g (8 + 8 * a)) / 10))), (0, .ref (z 0)), (1, .int (nI a)), (2, .int (nI kd))]) hx hb dX8_as_80 hl (by decide) rfl (fun ls hl => ?_)
                  refine lv_iload hx hb dX8_as_82 (lv_at hl 0 rfl) ?_
                  refine lv_if_ne (tgt := 92) hx hb dX8_as_84 (by decide) (fun c24 => ?_) (fun c24 => ?_)
                  · exact absurd c24 (by decide)
                  · refine ta_bipush C 4294967292 dX8_as_87 (by decide) ?_
                    refine lv_goto (tgt := 111) hx hb dX8_as_89 (by decide) ?_
                    have hP : va_P D vwCl [(z 0, .inr (8, [.ref (z 1), .int (nI ty), .ref (z 2), .ref (z 3), .ref (z 4), .ref (z 5), .int (nI kn), .ref (z 6), .ref (z 7), .ref (z 8), .int (nI no), .int (nI at_), .int (nI so), .int (nI sr), .int (nI va), .ref (z 9)])), (z 4, .inl (k.1 0, 66, .inl (ta_e g)))] H := hP.sub [1, 0] rfl
                    have hD : va_D A [(z 0, .inr (8, [.ref (z 1), .int (nI ty), .ref (z 2), .ref (z 3), .ref (z 4), .ref (z 5), .int (nI kn), .ref (z 6), .ref (z 7), .ref (z 8), .int (nI no), .int (nI at_), .int (nI so), .int (nI sr), .int (nI va), .ref (z 9)])), (z 4, .inl (k.1 0, 66, .inl (ta_e g)))] := hD.sub [1, 0] (by decide) rfl
                    have e1 : sp_as g a kd = 4294967292 := by unfold sp_as; (repeat' split) <;> omega
                    exact ret _ () dX8_as_111 rfl (by rw [e1]) hP hD hS
                · refine lv_iload_n hx hb dX8_as_70 rfl (lv_at hl 0 rfl) ?_
                  refine ta_iconst C 3 dX8_as_71 (by decide) ?_
                  refine ta_cge C (a := (g (8 + 8 * a)) / 10) (b := 3) (tgt := 79) (by omega) (by omega) dX8_as_72 (by decide) (fun c25 => ?_) (fun c25 => ?_)
                  · refine ta_iconst C 0 dX8_as_79 (by decide) ?_
                    refine lv_istore (lv' := [(4, .int (nI 0)), (3, .int (nI ((g (8 + 8 * a)) / 10))), (0, .ref (z 0)), (1, .int (nI a)), (2, .int (nI kd))]) hx hb dX8_as_80 hl (by decide) rfl (fun ls hl => ?_)
                    refine lv_iload hx hb dX8_as_82 (lv_at hl 0 rfl) ?_
                    refine lv_if_ne (tgt := 92) hx hb dX8_as_84 (by decide) (fun c26 => ?_) (fun c26 => ?_)
                    · exact absurd c26 (by decide)
                    · refine ta_bipush C 4294967292 dX8_as_87 (by decide) ?_
                      refine lv_goto (tgt := 111) hx hb dX8_as_89 (by decide) ?_
                      have hP : va_P D vwCl [(z 0, .inr (8, [.ref (z 1), .int (nI ty), .ref (z 2), .ref (z 3), .ref (z 4), .ref (z 5), .int (nI kn), .ref (z 6), .ref (z 7), .ref (z 8), .int (nI no), .int (nI at_), .int (nI so), .int (nI sr), .int (nI va), .ref (z 9)])), (z 4, .inl (k.1 0, 66, .inl (ta_e g)))] H := hP.sub [1, 0] rfl
                      have hD : va_D A [(z 0, .inr (8, [.ref (z 1), .int (nI ty), .ref (z 2), .ref (z 3), .ref (z 4), .ref (z 5), .int (nI kn), .ref (z 6), .ref (z 7), .ref (z 8), .int (nI no), .int (nI at_), .int (nI so), .int (nI sr), .int (nI va), .ref (z 9)])), (z 4, .inl (k.1 0, 66, .inl (ta_e g)))] := hD.sub [1, 0] (by decide) rfl
                      have e1 : sp_as g a kd = 4294967292 := by unfold sp_as; (repeat' split) <;> omega
                      exact ret _ () dX8_as_111 rfl (by rw [e1]) hP hD hS
                  · refine ta_iconst C 1 dX8_as_75 (by decide) ?_
                    refine lv_goto (tgt := 80) hx hb dX8_as_76 (by decide) ?_
                    refine lv_istore (lv' := [(4, .int (nI 1)), (3, .int (nI ((g (8 + 8 * a)) / 10))), (0, .ref (z 0)), (1, .int (nI a)), (2, .int (nI kd))]) hx hb dX8_as_80 hl (by decide) rfl (fun ls hl => ?_)
                    refine lv_iload hx hb dX8_as_82 (lv_at hl 0 rfl) ?_
                    refine lv_if_ne (tgt := 92) hx hb dX8_as_84 (by decide) (fun c27 => ?_) (fun c27 => ?_)
                    · refine lv_iload_n hx hb dX8_as_92 rfl (lv_at hl 1 rfl) ?_
                      refine ta_iconst C 2 dX8_as_93 (by decide) ?_
                      refine ta_cne C (a := (g (8 + 8 * a)) / 10) (b := 2) (tgt := 101) (by omega) (by omega) dX8_as_94 (by decide) (fun c28 => ?_) (fun c28 => ?_)
                      · refine lv_iload_n hx hb dX8_as_101 rfl (lv_at hl 1 rfl) ?_
                        refine ta_iconst C 3 dX8_as_102 (by decide) ?_
                        refine ta_cge C (a := (g (8 + 8 * a)) / 10) (b := 3) (tgt := 110) (by omega) (by omega) dX8_as_103 (by decide) (fun c29 => ?_) (fun c29 => ?_)
                        · refine ta_iconst C 0 dX8_as_110 (by decide) ?_
                          have hP : va_P D vwCl [(z 0, .inr (8, [.ref (z 1), .int (nI ty), .ref (z 2), .ref (z 3), .ref (z 4), .ref (z 5), .int (nI kn), .ref (z 6), .ref (z 7), .ref (z 8), .int (nI no), .int (nI at_), .int (nI so), .int (nI sr), .int (nI va), .ref (z 9)])), (z 4, .inl (k.1 0, 66, .inl (ta_e g)))] H := hP.sub [1, 0] rfl
                          have hD : va_D A [(z 0, .inr (8, [.ref (z 1), .int (nI ty), .ref (z 2), .ref (z 3), .ref (z 4), .ref (z 5), .int (nI kn), .ref (z 6), .ref (z 7), .ref (z 8), .int (nI no), .int (nI at_), .int (nI so), .int (nI sr), .int (nI va), .ref (z 9)])), (z 4, .inl (k.1 0, 66, .inl (ta_e g)))] := hD.sub [1, 0] (by decide) rfl
                          have e1 : sp_as g a kd = 0 := by unfold sp_as; (repeat' split) <;> omega
                          exact ret _ () dX8_as_111 rfl (by rw [e1]) hP hD hS
                        · refine ta_iconst C 1 dX8_as_106 (by decide) ?_
                          refine lv_goto (tgt := 111) hx hb dX8_as_107 (by decide) ?_
                          have hP : va_P D vwCl [(z 0, .inr (8, [.ref (z 1), .int (nI ty), .ref (z 2), .ref (z 3), .ref (z 4), .ref (z 5), .int (nI kn), .ref (z 6), .ref (z 7), .ref (z 8), .int (nI no), .int (nI at_), .int (nI so), .int (nI sr), .int (nI va), .ref (z 9)])), (z 4, .inl (k.1 0, 66, .inl (ta_e g)))] H := hP.sub [1, 0] rfl
                          have hD : va_D A [(z 0, .inr (8, [.ref (z 1), .int (nI ty), .ref (z 2), .ref (z 3), .ref (z 4), .ref (z 5), .int (nI kn), .ref (z 6), .ref (z 7), .ref (z 8), .int (nI no), .int (nI at_), .int (nI so), .int (nI sr), .int (nI va), .ref (z 9)])), (z 4, .inl (k.1 0, 66, .inl (ta_e g)))] := hD.sub [1, 0] (by decide) rfl
                          have e1 : sp_as g a kd = 1 := by unfold sp_as; (repeat' split) <;> omega
                          exact ret _ () dX8_as_111 rfl (by rw [e1]) hP hD hS
                      · refine ta_iconst C 2 dX8_as_97 (by decide) ?_
                        refine lv_goto (tgt := 111) hx hb dX8_as_98 (by decide) ?_
                        have hP : va_P D vwCl [(z 0, .inr (8, [.ref (z 1), .int (nI ty), .ref (z 2), .ref (z 3), .ref (z 4), .ref (z 5), .int (nI kn), .ref (z 6), .ref (z 7), .ref (z 8), .int (nI no), .int (nI at_), .int (nI so), .int (nI sr), .int (nI va), .ref (z 9)])), (z 4, .inl (k.1 0, 66, .inl (ta_e g)))] H := hP.sub [1, 0] rfl
                        have hD : va_D A [(z 0, .inr (8, [.ref (z 1), .int (nI ty), .ref (z 2), .ref (z 3), .ref (z 4), .ref (z 5), .int (nI kn), .ref (z 6), .ref (z 7), .ref (z 8), .int (nI no), .int (nI at_), .int (nI so), .int (nI sr), .int (nI va), .ref (z 9)])), (z 4, .inl (k.1 0, 66, .inl (ta_e g)))] := hD.sub [1, 0] (by decide) rfl
                        have e1 : sp_as g a kd = 2 := by unfold sp_as; (repeat' split) <;> omega
                        exact ret _ () dX8_as_111 rfl (by rw [e1]) hP hD hS
                    · exact absurd c27 (by decide)
          · refine ta_bipush C 4294967292 dX8_as_36 (by decide) ?_
            have e1 : sp_as g a kd = 4294967292 := by unfold sp_as; (repeat' split) <;> omega
            exact ret _ () dX8_as_38 rfl (by rw [e1]) hP hD hS
        · exact absurd c10 (by decide)
      · obtain ⟨hi30, rfl⟩ := h0
        have hP : va_P D vwCl [(z 0, .inr (8, [.ref (z 1), .int (nI ty), .ref (z 2), .ref (z 3), .ref (z 4), .ref (z 5), .int (nI kn), .ref (z 6), .ref (z 7), .ref (z 8), .int (nI no), .int (nI at_), .int (nI so), .int (nI sr), .int (nI va), .ref (z 9)])), (z 4, .inl (k.1 0, 66, .inl (ta_e g)))] H := hP
        have hD : va_D A [(z 0, .inr (8, [.ref (z 1), .int (nI ty), .ref (z 2), .ref (z 3), .ref (z 4), .ref (z 5), .int (nI kn), .ref (z 6), .ref (z 7), .ref (z 8), .int (nI no), .int (nI at_), .int (nI so), .int (nI sr), .int (nI va), .ref (z 9)])), (z 4, .inl (k.1 0, 66, .inl (ta_e g)))] := hD
        refine lv_if_ne (tgt := 24) hx hb dX8_as_18 (by decide) (fun c31 => ?_) (fun c31 => ?_)
        · exact absurd c31 (by decide)
        · refine ta_bipush C 4294967293 dX8_as_21 (by decide) ?_
          have e1 : sp_as g a kd = 4294967293 := by unfold sp_as; (repeat' split) <;> omega
          exact ret _ () dX8_as_23 rfl (by rw [e1]) hP hD hS
    · exact absurd c5 (by decide)
  · obtain ⟨hi32, rfl⟩ := h0
    have hP : va_P D vwCl [(z 0, .inr (8, [.ref (z 1), .int (nI ty), .ref (z 2), .ref (z 3), .ref (z 4), .ref (z 5), .int (nI kn), .ref (z 6), .ref (z 7), .ref (z 8), .int (nI no), .int (nI at_), .int (nI so), .int (nI sr), .int (nI va), .ref (z 9)])), (z 4, .inl (k.1 0, 66, .inl (ta_e g)))] H := hP
    have hD : va_D A [(z 0, .inr (8, [.ref (z 1), .int (nI ty), .ref (z 2), .ref (z 3), .ref (z 4), .ref (z 5), .int (nI kn), .ref (z 6), .ref (z 7), .ref (z 8), .int (nI no), .int (nI at_), .int (nI so), .int (nI sr), .int (nI va), .ref (z 9)])), (z 4, .inl (k.1 0, 66, .inl (ta_e g)))] := hD
    refine lv_if_ne (tgt := 12) hx hb dX8_as_6 (by decide) (fun c33 => ?_) (fun c33 => ?_)
    · exact absurd c33 (by decide)
    · refine ta_bipush C 4294967294 dX8_as_9 (by decide) ?_
      have e1 : sp_as g a kd = 4294967294 := by unfold sp_as; (repeat' split) <;> omega
      exact ret _ () dX8_as_11 rfl (by rw [e1]) hP hD hS

set_option maxHeartbeats 4000000 in
set_option maxRecDepth 100000 in
theorem c_X8_count (l : Launch) (D : va_G) (k : ta_C) (z : Nat → Nat) (ty : Nat) (kn : Nat) (no : Nat) (at_ : Nat) (so : Nat) (sr : Nat) (va : Nat) (t : Nat → Nat) (g : Nat → Nat) (w : Nat) (ww : w < 4294967296) : ta_Mi (S := Unit) l D k yX8_count cX8_count 4 .int 1 40 [.ref (z 0), .int (nI w)] [(z 0, .inr (8, [.ref (z 1), .int (nI ty), .ref (z 2), .ref (z 3), .ref (z 4), .ref (z 5), .int (nI kn), .ref (z 6), .ref (z 7), .ref (z 8), .int (nI no), .int (nI at_), .int (nI so), .int (nI sr), .int (nI va), .ref (z 9)])), (z 2, .inl (k.1 0, 23, .inl (ta_e t))), (z 4, .inl (k.1 0, 66, .inl (ta_e g)))] (fun r _ => r = nI (sp_count t g no kn ty w)) (fun u => [(z 0, .inr (8, [.ref (z 1), .int (nI ty), .ref (z 2), .ref (z 3), .ref (z 4), .ref (z 5), .int (nI kn), .ref (z 6), .ref (z 7), .ref (z 8), .int (nI no), .int (nI at_), .int (nI so), .int (nI sr), .int (nI va), .ref (z 9)])), (z 2, .inl (k.1 0, 23, .inl (ta_e t))), (z 4, .inl (k.1 0, 66, .inl (ta_e g)))]) := by
  refine ta_enter_i (by decide) (Nat.le_of_ble_eq_true rfl) ?_
  intro p e s m below meth c A ls Q C ret hP hD hS hl
  have C : ta_At p l D k s m ([.ref (z 0), .int (nI w)] : List Value).toArray c RX8 cX8_count 4 A := C
  have hx := C.1.1
  have hb := C.1.2.1
  have hl : lv_has ls 4 [(0, .ref (z 0)), (1, .int (nI w))] := hl
  obtain ⟨H, hH⟩ : ∃ H, H = s.heap := ⟨_, rfl⟩
  obtain ⟨locs, hlocs⟩ : ∃ q : List Loc, q = [] := ⟨_, rfl⟩
  have hP : va_P D vwCl [(z 0, .inr (8, [.ref (z 1), .int (nI ty), .ref (z 2), .ref (z 3), .ref (z 4), .ref (z 5), .int (nI kn), .ref (z 6), .ref (z 7), .ref (z 8), .int (nI no), .int (nI at_), .int (nI so), .int (nI sr), .int (nI va), .ref (z 9)])), (z 2, .inl (k.1 0, 23, .inl (ta_e t))), (z 4, .inl (k.1 0, 66, .inl (ta_e g)))] H := by rw [hH]; exact hP
  have hS : va_S A s.heap H locs := by rw [hH, hlocs]; exact hS
  rw [← hlocs]
  suffices hgoal : W p l e ({ frames := 1, cells := 0, slots := 0, locals := 40 }) s m ([.ref (z 0), .int (nI w)] : List Value).toArray below meth c H locs 0 0 Q (F0 m 0 ls []) by rw [hH] at hgoal; exact hgoal
  clear hH hlocs
  refine ta_iconst C 0 dX8_count_0 (by decide) ?_
  refine lv_istore_n (lv' := [(2, .int (nI 0)), (0, .ref (z 0)), (1, .int (nI w))]) hx hb dX8_count_1 rfl hl (by decide) rfl (fun ls hl => ?_)
  refine ta_iconst C 0 dX8_count_2 (by decide) ?_
  refine lv_istore_n (lv' := [(3, .int (nI 0)), (2, .int (nI 0)), (0, .ref (z 0)), (1, .int (nI w))]) hx hb dX8_count_3 rfl hl (by decide) rfl (fun ls hl => ?_)
  have loop_4 : ∀ (N_4 : Nat) (i : Nat), (i ≤ 36) → 36 - i < N_4 → ∀ (H : Heap) (locs : List Loc) (ls : Array Slot), va_P D vwCl [(z 0, .inr (8, [.ref (z 1), .int (nI ty), .ref (z 2), .ref (z 3), .ref (z 4), .ref (z 5), .int (nI kn), .ref (z 6), .ref (z 7), .ref (z 8), .int (nI no), .int (nI at_), .int (nI so), .int (nI sr), .int (nI va), .ref (z 9)])), (z 2, .inl (k.1 0, 23, .inl (ta_e t))), (z 4, .inl (k.1 0, 66, .inl (ta_e g)))] H → va_D A [(z 0, .inr (8, [.ref (z 1), .int (nI ty), .ref (z 2), .ref (z 3), .ref (z 4), .ref (z 5), .int (nI kn), .ref (z 6), .ref (z 7), .ref (z 8), .int (nI no), .int (nI at_), .int (nI so), .int (nI sr), .int (nI va), .ref (z 9)])), (z 2, .inl (k.1 0, 23, .inl (ta_e t))), (z 4, .inl (k.1 0, 66, .inl (ta_e g)))] → va_S A s.heap H locs → lv_has ls 4 [(3, .int (nI i)), (2, .int (nI (tg_sum (tg_mud g) i))), (0, .ref (z 0)), (1, .int (nI w))] → W p l e ({ frames := 1, cells := 0, slots := 0, locals := 40 }) s m ([.ref (z 0), .int (nI w)] : List Value).toArray below meth c H locs 0 0 Q (F0 m 4 ls []) := by
    clear hP hD hS hl
    intro N_4
    induction N_4 with
    | zero =>
      intro i h1 hf_4
      exact absurd hf_4 (Nat.not_lt_zero _)
    | succ N_4 ih_4 =>
      intro i h1 hf_4 H locs ls hP hD hS hl
      refine lv_iload_n hx hb dX8_count_4 rfl (lv_at hl 0 rfl) ?_
      refine ta_bipush C 36 dX8_count_5 (by decide) ?_
      refine ta_cge C (a := i) (b := 36) (tgt := 28) (by omega) (by omega) dX8_count_7 (by decide) (fun c1 => ?_) (fun c1 => ?_)
      · obtain rfl : i = 36 := by omega
        refine lv_iload_n hx hb dX8_count_28 rfl (lv_at hl 3 rfl) ?_
        refine ta_bipush C 10 dX8_count_29 (by decide) ?_
        refine ta_bipush C 13 dX8_count_31 (by decide) ?_
        refine ta_callSi (As := [.int (nI w), .int (nI 10), .int (nI 13)]) (rest0 := []) (Wr := [(z 0, .inr (8, [.ref (z 1), .int (nI ty), .ref (z 2), .ref (z 3), .ref (z 4), .ref (z 5), .int (nI kn), .ref (z 6), .ref (z 7), .ref (z 8), .int (nI no), .int (nI at_), .int (nI so), .int (nI sr), .int (nI va), .ref (z 9)])), (z 2, .inl (k.1 0, 23, .inl (ta_e t))), (z 4, .inl (k.1 0, 66, .inl (ta_e g)))]) C hP hD hS (c_X8_in_w l D k w 10 13 (by omega) (by omega) (by omega)) [] [0, 1, 2] rfl rfl (by decide) (by decide) (by decide) tw_159 tw_157 tw_5 tw_158 ⟨by decide, by decide, rfl⟩ ⟨Nat.le_of_ble_eq_true rfl, Nat.le_of_ble_eq_true rfl⟩ ⟨Nat.zero_le _, Nat.zero_le _⟩ hl.1 rfl (Nat.le_of_ble_eq_true rfl) dX8_count_33 (fun r2 u3 H locs h4 hP hD hS => ?_)
        rcases h4 with h0 | h0
        · obtain ⟨hi5, rfl⟩ := h0
          have hP : va_P D vwCl [(z 0, .inr (8, [.ref (z 1), .int (nI ty), .ref (z 2), .ref (z 3), .ref (z 4), .ref (z 5), .int (nI kn), .ref (z 6), .ref (z 7), .ref (z 8), .int (nI no), .int (nI at_), .int (nI so), .int (nI sr), .int (nI va), .ref (z 9)])), (z 2, .inl (k.1 0, 23, .inl (ta_e t))), (z 4, .inl (k.1 0, 66, .inl (ta_e g)))] H := hP
          have hD : va_D A [(z 0, .inr (8, [.ref (z 1), .int (nI ty), .ref (z 2), .ref (z 3), .ref (z 4), .ref (z 5), .int (nI kn), .ref (z 6), .ref (z 7), .ref (z 8), .int (nI no), .int (nI at_), .int (nI so), .int (nI sr), .int (nI va), .ref (z 9)])), (z 2, .inl (k.1 0, 23, .inl (ta_e t))), (z 4, .inl (k.1 0, 66, .inl (ta_e g)))] := hD
          refine lv_if_eq (tgt := 52) hx hb dX8_count_36 (by decide) (fun c6 => ?_) (fun c6 => ?_)
          · exact absurd c6 (by decide)
          · refine lv_aload_n hx hb dX8_count_39 rfl (lv_at hl 2 rfl) ?_
            refine ta_get C hP 0 inlX8 rfl rfl 4 (by decide) tw_128 rfl dX8_count_40 ?_
            refine ta_bipush C 26 dX8_count_43 (by decide) ?_
            refine lv_iload_n hx hb dX8_count_45 rfl (lv_at hl 3 rfl) ?_
            refine ta_iadd C (a := 26) (b := w) dX8_count_46 ?_
            refine ta_bipush C 10 dX8_count_47 (by decide) ?_
            refine ta_isub C (a := 26 + w) (b := 10) (by omega) dX8_count_49 ?_
            refine ta_iald C hP 2 rfl (i := (26 + w) - 10) (by omega) dX8_count_50 ?_
            have e1 : sp_count t g no kn ty w = g (16 + w) := by
              unfold sp_count
              rw [if_neg (by omega), if_neg (by omega), if_neg (by omega), if_neg (by omega), if_neg (by omega), if_neg (by omega), if_neg (by omega), if_neg (by omega), if_neg (by omega), if_neg (by omega), if_pos (by omega)]
            have e2 : 26 + w - 10 = 16 + w := by omega
            exact ret _ () dX8_count_51 rfl (by rw [e1, e2]) hP hD hS
        · obtain ⟨hi7, rfl⟩ := h0
          have hP : va_P D vwCl [(z 0, .inr (8, [.ref (z 1), .int (nI ty), .ref (z 2), .ref (z 3), .ref (z 4), .ref (z 5), .int (nI kn), .ref (z 6), .ref (z 7), .ref (z 8), .int (nI no), .int (nI at_), .int (nI so), .int (nI sr), .int (nI va), .ref (z 9)])), (z 2, .inl (k.1 0, 23, .inl (ta_e t))), (z 4, .inl (k.1 0, 66, .inl (ta_e g)))] H := hP
          have hD : va_D A [(z 0, .inr (8, [.ref (z 1), .int (nI ty), .ref (z 2), .ref (z 3), .ref (z 4), .ref (z 5), .int (nI kn), .ref (z 6), .ref (z 7), .ref (z 8), .int (nI no), .int (nI at_), .int (nI so), .int (nI sr), .int (nI va), .ref (z 9)])), (z 2, .inl (k.1 0, 23, .inl (ta_e t))), (z 4, .inl (k.1 0, 66, .inl (ta_e g)))] := hD
          refine lv_if_eq (tgt := 52) hx hb dX8_count_36 (by decide) (fun c8 => ?_) (fun c8 => ?_)
          · refine lv_iload_n hx hb dX8_count_52 rfl (lv_at hl 3 rfl) ?_
            rcases (show w = 0 ∨ w = 1 ∨ w = 2 ∨ w = 3 ∨ w = 4 ∨ w = 5 ∨ w = 6 ∨ w = 7 ∨ w = 8 ∨ w = 9 ∨ w = 10 ∨ w = 11 ∨ w = 12 ∨ w = 13 ∨ w = 14 ∨ w = 15 ∨ w = 16 ∨ 17 ≤ w by omega) with rfl | rfl | rfl | rfl | rfl | rfl | rfl | rfl | rfl | rfl | rfl | rfl | rfl | rfl | rfl | rfl | rfl | hout
            · refine lv_tableIn (tgt := 136) hx hb dX8_count_53 (by decide) (by decide) (off := 83) (by decide) (by decide) ?_
              refine lv_aload_n hx hb dX8_count_136 rfl (lv_at hl 2 rfl) ?_
              refine ta_get C hP 0 inlX8 rfl rfl 2 (by decide) tw_126 rfl dX8_count_137 ?_
              refine ta_iconst C 0 dX8_count_140 (by decide) ?_
              refine ta_iald C hP 1 rfl (i := 0) (by omega) dX8_count_141 ?_
              exact ret _ () dX8_count_142 rfl rfl hP hD hS
            · refine lv_tableIn (tgt := 143) hx hb dX8_count_53 (by decide) (by decide) (off := 90) (by decide) (by decide) ?_
              refine lv_aload_n hx hb dX8_count_143 rfl (lv_at hl 2 rfl) ?_
              refine ta_get C hP 0 inlX8 rfl rfl 2 (by decide) tw_126 rfl dX8_count_144 ?_
              refine ta_iconst C 1 dX8_count_147 (by decide) ?_
              refine ta_iald C hP 1 rfl (i := 1) (by omega) dX8_count_148 ?_
              exact ret _ () dX8_count_149 rfl rfl hP hD hS
            · refine lv_tableIn (tgt := 150) hx hb dX8_count_53 (by decide) (by decide) (off := 97) (by decide) (by decide) ?_
              refine lv_aload_n hx hb dX8_count_150 rfl (lv_at hl 2 rfl) ?_
              refine ta_get C hP 0 inlX8 rfl rfl 2 (by decide) tw_126 rfl dX8_count_151 ?_
              refine ta_iconst C 2 dX8_count_154 (by decide) ?_
              refine ta_iald C hP 1 rfl (i := 2) (by omega) dX8_count_155 ?_
              exact ret _ () dX8_count_156 rfl rfl hP hD hS
            · refine lv_tableIn (tgt := 157) hx hb dX8_count_53 (by decide) (by decide) (off := 104) (by decide) (by decide) ?_
              refine lv_aload_n hx hb dX8_count_157 rfl (lv_at hl 2 rfl) ?_
              refine ta_get C hP 0 inlX8 rfl rfl 4 (by decide) tw_128 rfl dX8_count_158 ?_
              refine ta_iconst C 0 dX8_count_161 (by decide) ?_
              refine ta_iald C hP 2 rfl (i := 0) (by omega) dX8_count_162 ?_
              exact ret _ () dX8_count_163 rfl rfl hP hD hS
            · refine lv_tableIn (tgt := 164) hx hb dX8_count_53 (by decide) (by decide) (off := 111) (by decide) (by decide) ?_
              refine lv_aload_n hx hb dX8_count_164 rfl (lv_at hl 2 rfl) ?_
              refine ta_get C hP 0 inlX8 rfl rfl 4 (by decide) tw_128 rfl dX8_count_165 ?_
              refine ta_iconst C 1 dX8_count_168 (by decide) ?_
              refine ta_iald C hP 2 rfl (i := 1) (by omega) dX8_count_169 ?_
              exact ret _ () dX8_count_170 rfl rfl hP hD hS
            · refine lv_tableIn (tgt := 171) hx hb dX8_count_53 (by decide) (by decide) (off := 118) (by decide) (by decide) ?_
              refine lv_aload_n hx hb dX8_count_171 rfl (lv_at hl 2 rfl) ?_
              refine ta_get C hP 0 inlX8 rfl rfl 4 (by decide) tw_128 rfl dX8_count_172 ?_
              refine ta_iconst C 2 dX8_count_175 (by decide) ?_
              refine ta_iald C hP 2 rfl (i := 2) (by omega) dX8_count_176 ?_
              exact ret _ () dX8_count_177 rfl rfl hP hD hS
            · refine lv_tableIn (tgt := 178) hx hb dX8_count_53 (by decide) (by decide) (off := 125) (by decide) (by decide) ?_
              refine lv_aload_n hx hb dX8_count_178 rfl (lv_at hl 2 rfl) ?_
              refine ta_get C hP 0 inlX8 rfl rfl 4 (by decide) tw_128 rfl dX8_count_179 ?_
              refine ta_iconst C 3 dX8_count_182 (by decide) ?_
              refine ta_iald C hP 2 rfl (i := 3) (by omega) dX8_count_183 ?_
              exact ret _ () dX8_count_184 rfl rfl hP hD hS
            · refine lv_tableIn (tgt := 185) hx hb dX8_count_53 (by decide) (by decide) (off := 132) (by decide) (by decide) ?_
              refine lv_aload_n hx hb dX8_count_185 rfl (lv_at hl 2 rfl) ?_
              refine ta_get C hP 0 inlX8 rfl rfl 4 (by decide) tw_128 rfl dX8_count_186 ?_
              refine ta_iconst C 4 dX8_count_189 (by decide) ?_
              refine ta_iald C hP 2 rfl (i := 4) (by omega) dX8_count_190 ?_
              exact ret _ () dX8_count_191 rfl rfl hP hD hS
            · refine lv_tableIn (tgt := 192) hx hb dX8_count_53 (by decide) (by decide) (off := 139) (by decide) (by decide) ?_
              refine lv_aload_n hx hb dX8_count_192 rfl (lv_at hl 2 rfl) ?_
              refine ta_get C hP 0 inlX8 rfl rfl 4 (by decide) tw_128 rfl dX8_count_193 ?_
              refine ta_iconst C 5 dX8_count_196 (by decide) ?_
              refine ta_iald C hP 2 rfl (i := 5) (by omega) dX8_count_197 ?_
              exact ret _ () dX8_count_198 rfl rfl hP hD hS
            · refine lv_tableIn (tgt := 199) hx hb dX8_count_53 (by decide) (by decide) (off := 146) (by decide) (by decide) ?_
              refine lv_iload_n hx hb dX8_count_199 rfl (lv_at hl 1 rfl) ?_
              exact ret _ () dX8_count_200 rfl rfl hP hD hS
            · refine lv_tableIn (tgt := 216) hx hb dX8_count_53 (by decide) (by decide) (off := 163) (by decide) (by decide) ?_
              refine ta_bipush C 4294967293 dX8_count_216 (by decide) ?_
              exfalso; omega
            · refine lv_tableIn (tgt := 216) hx hb dX8_count_53 (by decide) (by decide) (off := 163) (by decide) (by decide) ?_
              refine ta_bipush C 4294967293 dX8_count_216 (by decide) ?_
              exfalso; omega
            · refine lv_tableIn (tgt := 216) hx hb dX8_count_53 (by decide) (by decide) (off := 163) (by decide) (by decide) ?_
              refine ta_bipush C 4294967293 dX8_count_216 (by decide) ?_
              exfalso; omega
            · refine lv_tableIn (tgt := 216) hx hb dX8_count_53 (by decide) (by decide) (off := 163) (by decide) (by decide) ?_
              refine ta_bipush C 4294967293 dX8_count_216 (by decide) ?_
              exfalso; omega
            · refine lv_tableIn (tgt := 201) hx hb dX8_count_53 (by decide) (by decide) (off := 148) (by decide) (by decide) ?_
              refine lv_aload_n hx hb dX8_count_201 rfl (lv_at hl 2 rfl) ?_
              refine ta_get C hP 0 inlX8 rfl rfl 10 (by decide) tw_143 rfl dX8_count_202 ?_
              exact ret _ () dX8_count_205 rfl rfl hP hD hS
            · refine lv_tableIn (tgt := 206) hx hb dX8_count_53 (by decide) (by decide) (off := 153) (by decide) (by decide) ?_
              refine lv_aload_n hx hb dX8_count_206 rfl (lv_at hl 2 rfl) ?_
              refine ta_get C hP 0 inlX8 rfl rfl 6 (by decide) tw_142 rfl dX8_count_207 ?_
              exact ret _ () dX8_count_210 rfl rfl hP hD hS
            · refine lv_tableIn (tgt := 211) hx hb dX8_count_53 (by decide) (by decide) (off := 158) (by decide) (by decide) ?_
              refine lv_aload_n hx hb dX8_count_211 rfl (lv_at hl 2 rfl) ?_
              refine ta_get C hP 0 inlX8 rfl rfl 1 (by decide) tw_156 rfl dX8_count_212 ?_
              exact ret _ () dX8_count_215 rfl rfl hP hD hS
            · refine lv_tableOut (tgt := 216) hx hb dX8_count_53 (ta_swo (by omega) (by omega)) (by decide) ?_
              refine ta_bipush C 4294967293 dX8_count_216 (by decide) ?_
              have e1 : sp_count t g no kn ty w = 4294967293 := by
                unfold sp_count
                rw [if_neg (by omega), if_neg (by omega), if_neg (by omega), if_neg (by omega), if_neg (by omega), if_neg (by omega), if_neg (by omega), if_neg (by omega), if_neg (by omega), if_neg (by omega), if_neg (by omega), if_neg (by omega), if_neg (by omega), if_neg (by omega)]
              exact ret _ () dX8_count_218 rfl (by rw [e1]) hP hD hS
          · exact absurd c8 (by decide)
      · refine lv_iload_n hx hb dX8_count_10 rfl (lv_at hl 1 rfl) ?_
        refine lv_aload_n hx hb dX8_count_11 rfl (lv_at hl 2 rfl) ?_
        refine ta_get C hP 0 inlX8 rfl rfl 4 (by decide) tw_128 rfl dX8_count_12 ?_
        refine ta_bipush C 30 dX8_count_15 (by decide) ?_
        refine lv_iload_n hx hb dX8_count_17 rfl (lv_at hl 0 rfl) ?_
        refine ta_iadd C (a := 30) (b := i) dX8_count_18 ?_
        refine ta_iald C hP 2 rfl (i := 30 + i) (by omega) dX8_count_19 ?_
        refine ta_iadd C (a := tg_sum (tg_mud g) i) (b := g (30 + i)) dX8_count_20 ?_
        refine lv_istore_n (lv' := [(2, .int (nI ((tg_sum (tg_mud g) i) + (g (30 + i))))), (3, .int (nI i)), (0, .ref (z 0)), (1, .int (nI w))]) hx hb dX8_count_21 rfl hl (by decide) rfl (fun ls hl => ?_)
        refine lv_iinc (v := nI (i + 1)) (lv' := [(3, .int (nI (i + 1))), (2, .int (nI ((tg_sum (tg_mud g) i) + (g (30 + i))))), (0, .ref (z 0)), (1, .int (nI w))]) hx hb dX8_count_22 hl (k := 1) rfl (ta_inc1 _) (by decide) rfl (fun ls hl => ?_)
        refine lv_goto (tgt := 4) hx hb dX8_count_25 (by decide) ?_
        exact ih_4 (i + 1) (by omega) (by omega) _ _ _ hP hD hS (lv_sub hl [0, 1, 2, 3] rfl)
  exact loop_4 ((36 - 0) + 1) 0 (by omega) (Nat.lt_succ_self _) _ _ _ hP hD hS (lv_sub hl [0, 1, 2, 3] rfl)

set_option maxHeartbeats 4000000 in
set_option maxRecDepth 100000 in
theorem c_X8_forget (l : Launch) (D : va_G) (k : ta_C) (z : Nat → Nat) (ty : Nat) (kn : Nat) (no : Nat) (at_ : Nat) (so : Nat) (sr : Nat) (va : Nat) : ta_Mi (S := Unit) l D k yX8_forget cX8_forget 2 .int 0 0 [.ref (z 0)] [(z 0, .inr (8, [.ref (z 1), .int (nI ty), .ref (z 2), .ref (z 3), .ref (z 4), .ref (z 5), .int (nI kn), .ref (z 6), .ref (z 7), .ref (z 8), .int (nI no), .int (nI at_), .int (nI so), .int (nI sr), .int (nI va), .ref (z 9)]))] (fun r _ => r = nI no) (fun u => [(z 0, .inr (8, [.ref (z 1), .int (nI ty), .ref (z 2), .ref (z 3), .ref (z 4), .ref (z 5), .int (nI kn), .ref (z 6), .ref (z 7), .ref (z 8), .int (nI 0), .int (nI at_), .int (nI so), .int (nI sr), .int (nI va), .ref (z 9)]))]) := by
  refine ta_enter_i (by decide) (Nat.le_of_ble_eq_true rfl) ?_
  intro p e s m below meth c A ls Q C ret hP hD hS hl
  have C : ta_At p l D k s m ([.ref (z 0)] : List Value).toArray c RX8 cX8_forget 2 A := C
  have hx := C.1.1
  have hb := C.1.2.1
  have hl : lv_has ls 2 [(0, .ref (z 0))] := hl
  obtain ⟨H, hH⟩ : ∃ H, H = s.heap := ⟨_, rfl⟩
  obtain ⟨locs, hlocs⟩ : ∃ q : List Loc, q = [] := ⟨_, rfl⟩
  have hP : va_P D vwCl [(z 0, .inr (8, [.ref (z 1), .int (nI ty), .ref (z 2), .ref (z 3), .ref (z 4), .ref (z 5), .int (nI kn), .ref (z 6), .ref (z 7), .ref (z 8), .int (nI no), .int (nI at_), .int (nI so), .int (nI sr), .int (nI va), .ref (z 9)]))] H := by rw [hH]; exact hP
  have hS : va_S A s.heap H locs := by rw [hH, hlocs]; exact hS
  rw [← hlocs]
  suffices hgoal : W p l e ({ frames := 0, cells := 0, slots := 0, locals := 0 }) s m ([.ref (z 0)] : List Value).toArray below meth c H locs 0 0 Q (F0 m 0 ls []) by rw [hH] at hgoal; exact hgoal
  clear hH hlocs
  refine lv_aload_n hx hb dX8_forget_0 rfl (lv_at hl 0 rfl) ?_
  refine ta_get C hP 0 inlX8 rfl rfl 10 (by decide) tw_143 rfl dX8_forget_1 ?_
  refine lv_istore_n (lv' := [(1, .int (nI no)), (0, .ref (z 0))]) hx hb dX8_forget_4 rfl hl (by decide) rfl (fun ls hl => ?_)
  refine lv_aload_n hx hb dX8_forget_5 rfl (lv_at hl 1 rfl) ?_
  refine ta_iconst C 0 dX8_forget_6 (by decide) ?_
  refine ta_put C hP hD hS 0 inlX8 tyX8 tyX8_ok nmX8 rfl rfl 10 (by decide) tw_143 rfl rfl rfl (Nat.le_of_ble_eq_true rfl) dX8_forget_7 (fun H locs hP hD hS => ?_)
  have hP : va_P D vwCl [(z 0, .inr (8, [.ref (z 1), .int (nI ty), .ref (z 2), .ref (z 3), .ref (z 4), .ref (z 5), .int (nI kn), .ref (z 6), .ref (z 7), .ref (z 8), .int (nI 0), .int (nI at_), .int (nI so), .int (nI sr), .int (nI va), .ref (z 9)]))] H := hP
  have hD : va_D A [(z 0, .inr (8, [.ref (z 1), .int (nI ty), .ref (z 2), .ref (z 3), .ref (z 4), .ref (z 5), .int (nI kn), .ref (z 6), .ref (z 7), .ref (z 8), .int (nI 0), .int (nI at_), .int (nI so), .int (nI sr), .int (nI va), .ref (z 9)]))] := hD
  refine lv_iload_n hx hb dX8_forget_10 rfl (lv_at hl 0 rfl) ?_
  exact ret (nI no) () dX8_forget_11 rfl rfl hP hD hS

set_option maxHeartbeats 4000000 in
set_option maxRecDepth 100000 in
theorem c_X8_seen (l : Launch) (D : va_G) (k : ta_C) (z : Nat → Nat) (ty : Nat) (kn : Nat) (no : Nat) (at_ : Nat) (so : Nat) (sr : Nat) (va : Nat) (t : Nat → Nat) (nt : Nat → Nat) (x : Nat) (mi : Nat) (hok : tg_tok t) (hno : no ≤ 6) (wx : x < 4294967296) (wmi : mi < 4294967296) : ta_Mi (S := Unit) l D k yX8_seen cX8_seen 3 .int 1 40 [.ref (z 0), .int (nI x), .int (nI mi)] [(z 0, .inr (8, [.ref (z 1), .int (nI ty), .ref (z 2), .ref (z 3), .ref (z 4), .ref (z 5), .int (nI kn), .ref (z 6), .ref (z 7), .ref (z 8), .int (nI no), .int (nI at_), .int (nI so), .int (nI sr), .int (nI va), .ref (z 9)])), (z 2, .inl (k.1 0, 23, .inl (ta_e t))), (z 8, .inl (k.1 0, 6, .inl (ta_e nt)))] (fun r _ => r = nI (sp_seen t no x mi)) (fun u => [(z 0, .inr (8, [.ref (z 1), .int (nI ty), .ref (z 2), .ref (z 3), .ref (z 4), .ref (z 5), .int (nI kn), .ref (z 6), .ref (z 7), .ref (z 8), .int (nI (cl_if (sp_seen_c t no x mi) (no + 1) (no))), .int (nI at_), .int (nI so), .int (nI sr), .int (nI va), .ref (z 9)])), (z 2, .inl (k.1 0, 23, .inl (ta_e t))), (z 8, .inl (k.1 0, 6, .inl (ta_e (cl_if (sp_seen_c t no x mi) (ta_u nt no (100 * x + mi)) (nt)))))]) := by
  refine ta_enter_i (by decide) (Nat.le_of_ble_eq_true rfl) ?_
  intro p e s m below meth c A ls Q C ret hP hD hS hl
  have C : ta_At p l D k s m ([.ref (z 0), .int (nI x), .int (nI mi)] : List Value).toArray c RX8 cX8_seen 3 A := C
  have hx := C.1.1
  have hb := C.1.2.1
  have hl : lv_has ls 3 [(0, .ref (z 0)), (1, .int (nI x)), (2, .int (nI mi))] := hl
  obtain ⟨H, hH⟩ : ∃ H, H = s.heap := ⟨_, rfl⟩
  obtain ⟨locs, hlocs⟩ : ∃ q : List Loc, q = [] := ⟨_, rfl⟩
  have hP : va_P D vwCl [(z 0, .inr (8, [.ref (z 1), .int (nI ty), .ref (z 2), .ref (z 3), .ref (z 4), .ref (z 5), .int (nI kn), .ref (z 6), .ref (z 7), .ref (z 8), .int (nI no), .int (nI at_), .int (nI so), .int (nI sr), .int (nI va), .ref (z 9)])), (z 2, .inl (k.1 0, 23, .inl (ta_e t))), (z 8, .inl (k.1 0, 6, .inl (ta_e nt)))] H := by rw [hH]; exact hP
  have hS : va_S A s.heap H locs := by rw [hH, hlocs]; exact hS
  rw [← hlocs]
  suffices hgoal : W p l e ({ frames := 1, cells := 0, slots := 0, locals := 40 }) s m ([.ref (z 0), .int (nI x), .int (nI mi)] : List Value).toArray below meth c H locs 0 0 Q (F0 m 0 ls []) by rw [hH] at hgoal; exact hgoal
  clear hH hlocs
  obtain ⟨a1, a2, a3, a4, -, -⟩ := hok
  have hm : t 0 * t 1 ≤ 36 := tg_36 a2 a4
  have hm1 : 4 ≤ t 0 * t 1 := Nat.mul_le_mul a1 a3
  refine lv_iload_n hx hb dX8_seen_0 rfl (lv_at hl 1 rfl) ?_
  refine ta_iconst C 0 dX8_seen_1 (by decide) ?_
  refine lv_aload_n hx hb dX8_seen_2 rfl (lv_at hl 0 rfl) ?_
  refine ta_callVi (As := []) (rest0 := [.int (nI 0), .int (nI x)]) (Wr := [(z 8, .inl (k.1 0, 6, .inl (ta_e nt)))]) C hP hD hS (c_X8_cells l D k z ty kn no at_ so sr va t) 0 rfl rfl rfl [0, 1] [2] rfl rfl (by decide) (by decide) (by decide) tw_378 tw_375 tw_5 tw_376 tw_377 ⟨by decide, by decide, rfl⟩ ⟨Nat.le_of_ble_eq_true rfl, Nat.le_of_ble_eq_true rfl⟩ ⟨Nat.zero_le _, Nat.zero_le _⟩ hl.1 rfl (Nat.le_of_ble_eq_true rfl) dX8_seen_3 (fun r1 u2 H locs h3 hP hD hS => ?_)
  obtain rfl := h3
  have hP : va_P D vwCl [(z 8, .inl (k.1 0, 6, .inl (ta_e nt))), (z 0, .inr (8, [.ref (z 1), .int (nI ty), .ref (z 2), .ref (z 3), .ref (z 4), .ref (z 5), .int (nI kn), .ref (z 6), .ref (z 7), .ref (z 8), .int (nI no), .int (nI at_), .int (nI so), .int (nI sr), .int (nI va), .ref (z 9)])), (z 2, .inl (k.1 0, 23, .inl (ta_e t)))] H := hP
  have hD : va_D A [(z 8, .inl (k.1 0, 6, .inl (ta_e nt))), (z 0, .inr (8, [.ref (z 1), .int (nI ty), .ref (z 2), .ref (z 3), .ref (z 4), .ref (z 5), .int (nI kn), .ref (z 6), .ref (z 7), .ref (z 8), .int (nI no), .int (nI at_), .int (nI so), .int (nI sr), .int (nI va), .ref (z 9)])), (z 2, .inl (k.1 0, 23, .inl (ta_e t)))] := hD
  refine ta_iconst C 1 dX8_seen_6 (by decide) ?_
  refine ta_isub C (a := t 0 * t 1) (b := 1) (by omega) dX8_seen_7 ?_
  refine ta_callSi (As := [.int (nI x), .int (nI 0), .int (nI ((t 0 * t 1) - 1))]) (rest0 := []) (Wr := [(z 8, .inl (k.1 0, 6, .inl (ta_e nt))), (z 0, .inr (8, [.ref (z 1), .int (nI ty), .ref (z 2), .ref (z 3), .ref (z 4), .ref (z 5), .int (nI kn), .ref (z 6), .ref (z 7), .ref (z 8), .int (nI no), .int (nI at_), .int (nI so), .int (nI sr), .int (nI va), .ref (z 9)])), (z 2, .inl (k.1 0, 23, .inl (ta_e t)))]) C hP hD hS (c_X8_in_w l D k x 0 ((t 0 * t 1) - 1) (by omega) (by omega) (by omega)) [] [0, 1, 2] rfl rfl (by decide) (by decide) (by decide) tw_159 tw_157 tw_5 tw_158 ⟨by decide, by decide, rfl⟩ ⟨Nat.le_of_ble_eq_true rfl, Nat.le_of_ble_eq_true rfl⟩ ⟨Nat.zero_le _, Nat.zero_le _⟩ hl.1 rfl (Nat.le_of_ble_eq_true rfl) dX8_seen_8 (fun r4 u5 H locs h6 hP hD hS => ?_)
  rcases h6 with h0 | h0
  · obtain ⟨hi7, rfl⟩ := h0
    have hP : va_P D vwCl [(z 8, .inl (k.1 0, 6, .inl (ta_e nt))), (z 0, .inr (8, [.ref (z 1), .int (nI ty), .ref (z 2), .ref (z 3), .ref (z 4), .ref (z 5), .int (nI kn), .ref (z 6), .ref (z 7), .ref (z 8), .int (nI no), .int (nI at_), .int (nI so), .int (nI sr), .int (nI va), .ref (z 9)])), (z 2, .inl (k.1 0, 23, .inl (ta_e t)))] H := hP
    have hD : va_D A [(z 8, .inl (k.1 0, 6, .inl (ta_e nt))), (z 0, .inr (8, [.ref (z 1), .int (nI ty), .ref (z 2), .ref (z 3), .ref (z 4), .ref (z 5), .int (nI kn), .ref (z 6), .ref (z 7), .ref (z 8), .int (nI no), .int (nI at_), .int (nI so), .int (nI sr), .int (nI va), .ref (z 9)])), (z 2, .inl (k.1 0, 23, .inl (ta_e t)))] := hD
    refine lv_if_ne (tgt := 17) hx hb dX8_seen_11 (by decide) (fun c8 => ?_) (fun c8 => ?_)
    · refine lv_iload_n hx hb dX8_seen_17 rfl (lv_at hl 2 rfl) ?_
      refine ta_iconst C 1 dX8_seen_18 (by decide) ?_
      refine ta_bipush C 60 dX8_seen_19 (by decide) ?_
      refine ta_callSi (As := [.int (nI mi), .int (nI 1), .int (nI 60)]) (rest0 := []) (Wr := [(z 8, .inl (k.1 0, 6, .inl (ta_e nt))), (z 0, .inr (8, [.ref (z 1), .int (nI ty), .ref (z 2), .ref (z 3), .ref (z 4), .ref (z 5), .int (nI kn), .ref (z 6), .ref (z 7), .ref (z 8), .int (nI no), .int (nI at_), .int (nI so), .int (nI sr), .int (nI va), .ref (z 9)])), (z 2, .inl (k.1 0, 23, .inl (ta_e t)))]) C hP hD hS (c_X8_in_w l D k mi 1 60 (by omega) (by omega) (by omega)) [] [0, 1, 2] rfl rfl (by decide) (by decide) (by decide) tw_159 tw_157 tw_5 tw_158 ⟨by decide, by decide, rfl⟩ ⟨Nat.le_of_ble_eq_true rfl, Nat.le_of_ble_eq_true rfl⟩ ⟨Nat.zero_le _, Nat.zero_le _⟩ hl.1 rfl (Nat.le_of_ble_eq_true rfl) dX8_seen_21 (fun r9 u10 H locs h11 hP hD hS => ?_)
      rcases h11 with h0 | h0
      · obtain ⟨hi12, rfl⟩ := h0
        have hP : va_P D vwCl [(z 8, .inl (k.1 0, 6, .inl (ta_e nt))), (z 0, .inr (8, [.ref (z 1), .int (nI ty), .ref (z 2), .ref (z 3), .ref (z 4), .ref (z 5), .int (nI kn), .ref (z 6), .ref (z 7), .ref (z 8), .int (nI no), .int (nI at_), .int (nI so), .int (nI sr), .int (nI va), .ref (z 9)])), (z 2, .inl (k.1 0, 23, .inl (ta_e t)))] H := hP
        have hD : va_D A [(z 8, .inl (k.1 0, 6, .inl (ta_e nt))), (z 0, .inr (8, [.ref (z 1), .int (nI ty), .ref (z 2), .ref (z 3), .ref (z 4), .ref (z 5), .int (nI kn), .ref (z 6), .ref (z 7), .ref (z 8), .int (nI no), .int (nI at_), .int (nI so), .int (nI sr), .int (nI va), .ref (z 9)])), (z 2, .inl (k.1 0, 23, .inl (ta_e t)))] := hD
        refine lv_if_ne (tgt := 30) hx hb dX8_seen_24 (by decide) (fun c13 => ?_) (fun c13 => ?_)
        · refine lv_aload_n hx hb dX8_seen_30 rfl (lv_at hl 0 rfl) ?_
          refine ta_get C hP 1 inlX8 rfl rfl 10 (by decide) tw_143 rfl dX8_seen_31 ?_
          refine ta_bipush C 6 dX8_seen_34 (by decide) ?_
          refine ta_cne C (a := no) (b := 6) (tgt := 42) (by omega) (by omega) dX8_seen_36 (by decide) (fun c14 => ?_) (fun c14 => ?_)
          · refine lv_aload_n hx hb dX8_seen_42 rfl (lv_at hl 0 rfl) ?_
            refine ta_get C hP 1 inlX8 rfl rfl 9 (by decide) tw_132 rfl dX8_seen_43 ?_
            refine lv_aload_n hx hb dX8_seen_46 rfl (lv_at hl 0 rfl) ?_
            refine ta_get C hP 1 inlX8 rfl rfl 10 (by decide) tw_143 rfl dX8_seen_47 ?_
            refine ta_bipush C 100 dX8_seen_50 (by decide) ?_
            refine lv_iload_n hx hb dX8_seen_52 rfl (lv_at hl 1 rfl) ?_
            refine ta_imul C (a := 100) (b := x) dX8_seen_53 ?_
            refine lv_iload_n hx hb dX8_seen_54 rfl (lv_at hl 2 rfl) ?_
            refine ta_iadd C (a := 100 * x) (b := mi) dX8_seen_55 ?_
            refine ta_iast C hP hD hS 0 rfl (i := no) (v := (100 * x) + mi) (by omega) dX8_seen_56 (fun H locs hP hD hS => ?_)
            have hP : va_P D vwCl [(z 8, .inl (k.1 0, 6, .inl (ta_e (ta_u nt no ((100 * x) + mi))))), (z 0, .inr (8, [.ref (z 1), .int (nI ty), .ref (z 2), .ref (z 3), .ref (z 4), .ref (z 5), .int (nI kn), .ref (z 6), .ref (z 7), .ref (z 8), .int (nI no), .int (nI at_), .int (nI so), .int (nI sr), .int (nI va), .ref (z 9)])), (z 2, .inl (k.1 0, 23, .inl (ta_e t)))] H := hP
            have hD : va_D A [(z 8, .inl (k.1 0, 6, .inl (ta_e (ta_u nt no ((100 * x) + mi))))), (z 0, .inr (8, [.ref (z 1), .int (nI ty), .ref (z 2), .ref (z 3), .ref (z 4), .ref (z 5), .int (nI kn), .ref (z 6), .ref (z 7), .ref (z 8), .int (nI no), .int (nI at_), .int (nI so), .int (nI sr), .int (nI va), .ref (z 9)])), (z 2, .inl (k.1 0, 23, .inl (ta_e t)))] := hD
            refine lv_aload_n hx hb dX8_seen_57 rfl (lv_at hl 0 rfl) ?_
            refine lv_dup hx hb dX8_seen_58 rfl ?_
            refine ta_get C hP 1 inlX8 rfl rfl 10 (by decide) tw_143 rfl dX8_seen_59 ?_
            refine ta_iconst C 1 dX8_seen_62 (by decide) ?_
            refine ta_iadd C (a := no) (b := 1) dX8_seen_63 ?_
            refine ta_put C hP hD hS 1 inlX8 tyX8 tyX8_ok nmX8 rfl rfl 10 (by decide) tw_143 rfl rfl rfl (Nat.le_of_ble_eq_true rfl) dX8_seen_64 (fun H locs hP hD hS => ?_)
            have hP : va_P D vwCl [(z 8, .inl (k.1 0, 6, .inl (ta_e (ta_u nt no ((100 * x) + mi))))), (z 0, .inr (8, [.ref (z 1), .int (nI ty), .ref (z 2), .ref (z 3), .ref (z 4), .ref (z 5), .int (nI kn), .ref (z 6), .ref (z 7), .ref (z 8), .int (nI (no + 1)), .int (nI at_), .int (nI so), .int (nI sr), .int (nI va), .ref (z 9)])), (z 2, .inl (k.1 0, 23, .inl (ta_e t)))] H := hP
            have hD : va_D A [(z 8, .inl (k.1 0, 6, .inl (ta_e (ta_u nt no ((100 * x) + mi))))), (z 0, .inr (8, [.ref (z 1), .int (nI ty), .ref (z 2), .ref (z 3), .ref (z 4), .ref (z 5), .int (nI kn), .ref (z 6), .ref (z 7), .ref (z 8), .int (nI (no + 1)), .int (nI at_), .int (nI so), .int (nI sr), .int (nI va), .ref (z 9)])), (z 2, .inl (k.1 0, 23, .inl (ta_e t)))] := hD
            refine lv_aload_n hx hb dX8_seen_67 rfl (lv_at hl 0 rfl) ?_
            refine ta_get C hP 1 inlX8 rfl rfl 10 (by decide) tw_143 rfl dX8_seen_68 ?_
            have hP : va_P D vwCl [(z 0, .inr (8, [.ref (z 1), .int (nI ty), .ref (z 2), .ref (z 3), .ref (z 4), .ref (z 5), .int (nI kn), .ref (z 6), .ref (z 7), .ref (z 8), .int (nI (no + 1)), .int (nI at_), .int (nI so), .int (nI sr), .int (nI va), .ref (z 9)])), (z 2, .inl (k.1 0, 23, .inl (ta_e t))), (z 8, .inl (k.1 0, 6, .inl (ta_e (ta_u nt no ((100 * x) + mi)))))] H := hP.sub [1, 2, 0] rfl
            have hD : va_D A [(z 0, .inr (8, [.ref (z 1), .int (nI ty), .ref (z 2), .ref (z 3), .ref (z 4), .ref (z 5), .int (nI kn), .ref (z 6), .ref (z 7), .ref (z 8), .int (nI (no + 1)), .int (nI at_), .int (nI so), .int (nI sr), .int (nI va), .ref (z 9)])), (z 2, .inl (k.1 0, 23, .inl (ta_e t))), (z 8, .inl (k.1 0, 6, .inl (ta_e (ta_u nt no ((100 * x) + mi)))))] := hD.sub [1, 2, 0] (by decide) rfl
            have hcd : (sp_seen_c t no x mi) := by unfold sp_seen_c; omega
            simp only [cl_p hcd] at ret
            have e1 : sp_seen t no x mi = no + 1 := by
              unfold sp_seen
              (repeat' split) <;> omega
            exact ret _ () dX8_seen_71 rfl (by rw [e1]) hP hD hS
          · refine ta_bipush C 4294967291 dX8_seen_39 (by decide) ?_
            have hP : va_P D vwCl [(z 0, .inr (8, [.ref (z 1), .int (nI ty), .ref (z 2), .ref (z 3), .ref (z 4), .ref (z 5), .int (nI kn), .ref (z 6), .ref (z 7), .ref (z 8), .int (nI no), .int (nI at_), .int (nI so), .int (nI sr), .int (nI va), .ref (z 9)])), (z 2, .inl (k.1 0, 23, .inl (ta_e t))), (z 8, .inl (k.1 0, 6, .inl (ta_e nt)))] H := hP.sub [1, 2, 0] rfl
            have hD : va_D A [(z 0, .inr (8, [.ref (z 1), .int (nI ty), .ref (z 2), .ref (z 3), .ref (z 4), .ref (z 5), .int (nI kn), .ref (z 6), .ref (z 7), .ref (z 8), .int (nI no), .int (nI at_), .int (nI so), .int (nI sr), .int (nI va), .ref (z 9)])), (z 2, .inl (k.1 0, 23, .inl (ta_e t))), (z 8, .inl (k.1 0, 6, .inl (ta_e nt)))] := hD.sub [1, 2, 0] (by decide) rfl
            have hcd : ¬ (sp_seen_c t no x mi) := by unfold sp_seen_c; omega
            simp only [cl_n hcd] at ret
            have e1 : sp_seen t no x mi = 4294967291 := by
              unfold sp_seen
              (repeat' split) <;> omega
            exact ret _ () dX8_seen_41 rfl (by rw [e1]) hP hD hS
        · exact absurd c13 (by decide)
      · obtain ⟨hi15, rfl⟩ := h0
        have hP : va_P D vwCl [(z 8, .inl (k.1 0, 6, .inl (ta_e nt))), (z 0, .inr (8, [.ref (z 1), .int (nI ty), .ref (z 2), .ref (z 3), .ref (z 4), .ref (z 5), .int (nI kn), .ref (z 6), .ref (z 7), .ref (z 8), .int (nI no), .int (nI at_), .int (nI so), .int (nI sr), .int (nI va), .ref (z 9)])), (z 2, .inl (k.1 0, 23, .inl (ta_e t)))] H := hP
        have hD : va_D A [(z 8, .inl (k.1 0, 6, .inl (ta_e nt))), (z 0, .inr (8, [.ref (z 1), .int (nI ty), .ref (z 2), .ref (z 3), .ref (z 4), .ref (z 5), .int (nI kn), .ref (z 6), .ref (z 7), .ref (z 8), .int (nI no), .int (nI at_), .int (nI so), .int (nI sr), .int (nI va), .ref (z 9)])), (z 2, .inl (k.1 0, 23, .inl (ta_e t)))] := hD
        refine lv_if_ne (tgt := 30) hx hb dX8_seen_24 (by decide) (fun c16 => ?_) (fun c16 => ?_)
        · exact absurd c16 (by decide)
        · refine ta_bipush C 4294967293 dX8_seen_27 (by decide) ?_
          have hP : va_P D vwCl [(z 0, .inr (8, [.ref (z 1), .int (nI ty), .ref (z 2), .ref (z 3), .ref (z 4), .ref (z 5), .int (nI kn), .ref (z 6), .ref (z 7), .ref (z 8), .int (nI no), .int (nI at_), .int (nI so), .int (nI sr), .int (nI va), .ref (z 9)])), (z 2, .inl (k.1 0, 23, .inl (ta_e t))), (z 8, .inl (k.1 0, 6, .inl (ta_e nt)))] H := hP.sub [1, 2, 0] rfl
          have hD : va_D A [(z 0, .inr (8, [.ref (z 1), .int (nI ty), .ref (z 2), .ref (z 3), .ref (z 4), .ref (z 5), .int (nI kn), .ref (z 6), .ref (z 7), .ref (z 8), .int (nI no), .int (nI at_), .int (nI so), .int (nI sr), .int (nI va), .ref (z 9)])), (z 2, .inl (k.1 0, 23, .inl (ta_e t))), (z 8, .inl (k.1 0, 6, .inl (ta_e nt)))] := hD.sub [1, 2, 0] (by decide) rfl
          have hcd : ¬ (sp_seen_c t no x mi) := by unfold sp_seen_c; omega
          simp only [cl_n hcd] at ret
          have e1 : sp_seen t no x mi = 4294967293 := by
            unfold sp_seen
            (repeat' split) <;> omega
          exact ret _ () dX8_seen_29 rfl (by rw [e1]) hP hD hS
    · exact absurd c8 (by decide)
  · obtain ⟨hi17, rfl⟩ := h0
    have hP : va_P D vwCl [(z 8, .inl (k.1 0, 6, .inl (ta_e nt))), (z 0, .inr (8, [.ref (z 1), .int (nI ty), .ref (z 2), .ref (z 3), .ref (z 4), .ref (z 5), .int (nI kn), .ref (z 6), .ref (z 7), .ref (z 8), .int (nI no), .int (nI at_), .int (nI so), .int (nI sr), .int (nI va), .ref (z 9)])), (z 2, .inl (k.1 0, 23, .inl (ta_e t)))] H := hP
    have hD : va_D A [(z 8, .inl (k.1 0, 6, .inl (ta_e nt))), (z 0, .inr (8, [.ref (z 1), .int (nI ty), .ref (z 2), .ref (z 3), .ref (z 4), .ref (z 5), .int (nI kn), .ref (z 6), .ref (z 7), .ref (z 8), .int (nI no), .int (nI at_), .int (nI so), .int (nI sr), .int (nI va), .ref (z 9)])), (z 2, .inl (k.1 0, 23, .inl (ta_e t)))] := hD
    refine lv_if_ne (tgt := 17) hx hb dX8_seen_11 (by decide) (fun c18 => ?_) (fun c18 => ?_)
    · exact absurd c18 (by decide)
    · refine ta_bipush C 4294967294 dX8_seen_14 (by decide) ?_
      have hP : va_P D vwCl [(z 0, .inr (8, [.ref (z 1), .int (nI ty), .ref (z 2), .ref (z 3), .ref (z 4), .ref (z 5), .int (nI kn), .ref (z 6), .ref (z 7), .ref (z 8), .int (nI no), .int (nI at_), .int (nI so), .int (nI sr), .int (nI va), .ref (z 9)])), (z 2, .inl (k.1 0, 23, .inl (ta_e t))), (z 8, .inl (k.1 0, 6, .inl (ta_e nt)))] H := hP.sub [1, 2, 0] rfl
      have hD : va_D A [(z 0, .inr (8, [.ref (z 1), .int (nI ty), .ref (z 2), .ref (z 3), .ref (z 4), .ref (z 5), .int (nI kn), .ref (z 6), .ref (z 7), .ref (z 8), .int (nI no), .int (nI at_), .int (nI so), .int (nI sr), .int (nI va), .ref (z 9)])), (z 2, .inl (k.1 0, 23, .inl (ta_e t))), (z 8, .inl (k.1 0, 6, .inl (ta_e nt)))] := hD.sub [1, 2, 0] (by decide) rfl
      have hcd : ¬ (sp_seen_c t no x mi) := by unfold sp_seen_c; omega
      simp only [cl_n hcd] at ret
      have e1 : sp_seen t no x mi = 4294967294 := by
        unfold sp_seen
        (repeat' split) <;> omega
      exact ret _ () dX8_seen_16 rfl (by rw [e1]) hP hD hS

set_option maxHeartbeats 4000000 in
set_option maxRecDepth 100000 in
theorem c_X8_behind (l : Launch) (D : va_G) (k : ta_C) (z : Nat → Nat) (ty : Nat) (kn : Nat) (no : Nat) (at_ : Nat) (so : Nat) (sr : Nat) (va : Nat) (t : Nat → Nat) (g : Nat → Nat) (hd : Nat → Nat) (n : Nat) (w : Nat) (hok : tg_ok t g) (hh0 : g 0 < 1073741824) (hh1 : g 0 < 1000000) (wn : n < 4294967296) (ww : w < 4294967296) : ta_Mi (S := Nat → Nat) l D k yX8_behind cX8_behind 4 .int 3 100 [.ref (z 0), .int (nI n), .int (nI w)] [(z 0, .inr (8, [.ref (z 1), .int (nI ty), .ref (z 2), .ref (z 3), .ref (z 4), .ref (z 5), .int (nI kn), .ref (z 6), .ref (z 7), .ref (z 8), .int (nI no), .int (nI at_), .int (nI so), .int (nI sr), .int (nI va), .ref (z 9)])), (z 2, .inl (k.1 0, 23, .inl (ta_e t))), (z 4, .inl (k.1 0, 66, .inl (ta_e g))), (z 9, .inl (k.1 0, 66, .inl (ta_e hd)))] (fun r _ => r = nI (sp_behind t g n w)) (fun u => [(z 0, .inr (8, [.ref (z 1), .int (nI ty), .ref (z 2), .ref (z 3), .ref (z 4), .ref (z 5), .int (nI kn), .ref (z 6), .ref (z 7), .ref (z 8), .int (nI no), .int (nI at_), .int (nI so), .int (nI sr), .int (nI va), .ref (z 9)])), (z 2, .inl (k.1 0, 23, .inl (ta_e t))), (z 4, .inl (k.1 0, 66, .inl (ta_e g))), (z 9, .inl (k.1 0, 66, .inl (ta_e u)))]) := by
  refine ta_enter_i (by decide) (Nat.le_of_ble_eq_true rfl) ?_
  intro p e s m below meth c A ls Q C ret hP hD hS hl
  have C : ta_At p l D k s m ([.ref (z 0), .int (nI n), .int (nI w)] : List Value).toArray c RX8 cX8_behind 4 A := C
  have hx := C.1.1
  have hb := C.1.2.1
  have hl : lv_has ls 4 [(0, .ref (z 0)), (1, .int (nI n)), (2, .int (nI w))] := hl
  obtain ⟨H, hH⟩ : ∃ H, H = s.heap := ⟨_, rfl⟩
  obtain ⟨locs, hlocs⟩ : ∃ q : List Loc, q = [] := ⟨_, rfl⟩
  have hP : va_P D vwCl [(z 0, .inr (8, [.ref (z 1), .int (nI ty), .ref (z 2), .ref (z 3), .ref (z 4), .ref (z 5), .int (nI kn), .ref (z 6), .ref (z 7), .ref (z 8), .int (nI no), .int (nI at_), .int (nI so), .int (nI sr), .int (nI va), .ref (z 9)])), (z 2, .inl (k.1 0, 23, .inl (ta_e t))), (z 4, .inl (k.1 0, 66, .inl (ta_e g))), (z 9, .inl (k.1 0, 66, .inl (ta_e hd)))] H := by rw [hH]; exact hP
  have hS : va_S A s.heap H locs := by rw [hH, hlocs]; exact hS
  rw [← hlocs]
  suffices hgoal : W p l e ({ frames := 3, cells := 0, slots := 0, locals := 100 }) s m ([.ref (z 0), .int (nI n), .int (nI w)] : List Value).toArray below meth c H locs 0 0 Q (F0 m 0 ls []) by rw [hH] at hgoal; exact hgoal
  clear hH hlocs
  refine lv_iload_n hx hb dX8_behind_0 rfl (lv_at hl 1 rfl) ?_
  refine ta_iconst C 0 dX8_behind_1 (by decide) ?_
  refine ta_bipush C 99 dX8_behind_2 (by decide) ?_
  refine ta_callSi (As := [.int (nI n), .int (nI 0), .int (nI 99)]) (rest0 := []) (Wr := [(z 0, .inr (8, [.ref (z 1), .int (nI ty), .ref (z 2), .ref (z 3), .ref (z 4), .ref (z 5), .int (nI kn), .ref (z 6), .ref (z 7), .ref (z 8), .int (nI no), .int (nI at_), .int (nI so), .int (nI sr), .int (nI va), .ref (z 9)])), (z 2, .inl (k.1 0, 23, .inl (ta_e t))), (z 4, .inl (k.1 0, 66, .inl (ta_e g))), (z 9, .inl (k.1 0, 66, .inl (ta_e hd)))]) C hP hD hS (c_X8_in_w l D k n 0 99 (by omega) (by omega) (by omega)) [] [0, 1, 2, 3] rfl rfl (by decide) (by decide) (by decide) tw_159 tw_157 tw_5 tw_158 ⟨by decide, by decide, rfl⟩ ⟨Nat.le_of_ble_eq_true rfl, Nat.le_of_ble_eq_true rfl⟩ ⟨Nat.zero_le _, Nat.zero_le _⟩ hl.1 rfl (Nat.le_of_ble_eq_true rfl) dX8_behind_4 (fun r1 u2 H locs h3 hP hD hS => ?_)
  rcases h3 with h0 | h0
  · obtain ⟨hi4, rfl⟩ := h0
    have hP : va_P D vwCl [(z 0, .inr (8, [.ref (z 1), .int (nI ty), .ref (z 2), .ref (z 3), .ref (z 4), .ref (z 5), .int (nI kn), .ref (z 6), .ref (z 7), .ref (z 8), .int (nI no), .int (nI at_), .int (nI so), .int (nI sr), .int (nI va), .ref (z 9)])), (z 2, .inl (k.1 0, 23, .inl (ta_e t))), (z 4, .inl (k.1 0, 66, .inl (ta_e g))), (z 9, .inl (k.1 0, 66, .inl (ta_e hd)))] H := hP
    have hD : va_D A [(z 0, .inr (8, [.ref (z 1), .int (nI ty), .ref (z 2), .ref (z 3), .ref (z 4), .ref (z 5), .int (nI kn), .ref (z 6), .ref (z 7), .ref (z 8), .int (nI no), .int (nI at_), .int (nI so), .int (nI sr), .int (nI va), .ref (z 9)])), (z 2, .inl (k.1 0, 23, .inl (ta_e t))), (z 4, .inl (k.1 0, 66, .inl (ta_e g))), (z 9, .inl (k.1 0, 66, .inl (ta_e hd)))] := hD
    refine lv_if_eq (tgt := 19) hx hb dX8_behind_7 (by decide) (fun c5 => ?_) (fun c5 => ?_)
    · exact absurd c5 (by decide)
    · refine lv_iload_n hx hb dX8_behind_10 rfl (lv_at hl 2 rfl) ?_
      refine ta_iconst C 0 dX8_behind_11 (by decide) ?_
      refine ta_iconst C 4 dX8_behind_12 (by decide) ?_
      refine ta_callSi (As := [.int (nI w), .int (nI 0), .int (nI 4)]) (rest0 := []) (Wr := [(z 0, .inr (8, [.ref (z 1), .int (nI ty), .ref (z 2), .ref (z 3), .ref (z 4), .ref (z 5), .int (nI kn), .ref (z 6), .ref (z 7), .ref (z 8), .int (nI no), .int (nI at_), .int (nI so), .int (nI sr), .int (nI va), .ref (z 9)])), (z 2, .inl (k.1 0, 23, .inl (ta_e t))), (z 4, .inl (k.1 0, 66, .inl (ta_e g))), (z 9, .inl (k.1 0, 66, .inl (ta_e hd)))]) C hP hD hS (c_X8_in_w l D k w 0 4 (by omega) (by omega) (by omega)) [] [0, 1, 2, 3] rfl rfl (by decide) (by decide) (by decide) tw_159 tw_157 tw_5 tw_158 ⟨by decide, by decide, rfl⟩ ⟨Nat.le_of_ble_eq_true rfl, Nat.le_of_ble_eq_true rfl⟩ ⟨Nat.zero_le _, Nat.zero_le _⟩ hl.1 rfl (Nat.le_of_ble_eq_true rfl) dX8_behind_13 (fun r6 u7 H locs h8 hP hD hS => ?_)
      rcases h8 with h0 | h0
      · obtain ⟨hi9, rfl⟩ := h0
        have hP : va_P D vwCl [(z 0, .inr (8, [.ref (z 1), .int (nI ty), .ref (z 2), .ref (z 3), .ref (z 4), .ref (z 5), .int (nI kn), .ref (z 6), .ref (z 7), .ref (z 8), .int (nI no), .int (nI at_), .int (nI so), .int (nI sr), .int (nI va), .ref (z 9)])), (z 2, .inl (k.1 0, 23, .inl (ta_e t))), (z 4, .inl (k.1 0, 66, .inl (ta_e g))), (z 9, .inl (k.1 0, 66, .inl (ta_e hd)))] H := hP
        have hD : va_D A [(z 0, .inr (8, [.ref (z 1), .int (nI ty), .ref (z 2), .ref (z 3), .ref (z 4), .ref (z 5), .int (nI kn), .ref (z 6), .ref (z 7), .ref (z 8), .int (nI no), .int (nI at_), .int (nI so), .int (nI sr), .int (nI va), .ref (z 9)])), (z 2, .inl (k.1 0, 23, .inl (ta_e t))), (z 4, .inl (k.1 0, 66, .inl (ta_e g))), (z 9, .inl (k.1 0, 66, .inl (ta_e hd)))] := hD
        refine lv_if_ne (tgt := 22) hx hb dX8_behind_16 (by decide) (fun c10 => ?_) (fun c10 => ?_)
        · refine lv_aload_n hx hb dX8_behind_22 rfl (lv_at hl 0 rfl) ?_
          refine ta_callVv (As := []) (rest0 := []) (Wr := [(z 2, .inl (k.1 0, 23, .inl (ta_e t)))]) C hP hD hS (c_X8_holds l D k z ty kn no at_ so sr va g hd) 0 rfl rfl rfl [0, 2, 3] [1] rfl rfl (by decide) (by decide) (by decide) tw_560 tw_557 tw_5 tw_558 tw_559 ⟨by decide, by decide, rfl⟩ ⟨Nat.le_of_ble_eq_true rfl, Nat.le_of_ble_eq_true rfl⟩ ⟨Nat.zero_le _, Nat.zero_le _⟩ hl.1 rfl (Nat.le_of_ble_eq_true rfl) dX8_behind_23 (fun u12 H locs h13 hP hD hS => ?_)
          have hP : va_P D vwCl [(z 2, .inl (k.1 0, 23, .inl (ta_e t))), (z 0, .inr (8, [.ref (z 1), .int (nI ty), .ref (z 2), .ref (z 3), .ref (z 4), .ref (z 5), .int (nI kn), .ref (z 6), .ref (z 7), .ref (z 8), .int (nI no), .int (nI at_), .int (nI so), .int (nI sr), .int (nI va), .ref (z 9)])), (z 4, .inl (k.1 0, 66, .inl (ta_e g))), (z 9, .inl (k.1 0, 66, .inl (ta_e g)))] H := hP
          have hD : va_D A [(z 2, .inl (k.1 0, 23, .inl (ta_e t))), (z 0, .inr (8, [.ref (z 1), .int (nI ty), .ref (z 2), .ref (z 3), .ref (z 4), .ref (z 5), .int (nI kn), .ref (z 6), .ref (z 7), .ref (z 8), .int (nI no), .int (nI at_), .int (nI so), .int (nI sr), .int (nI va), .ref (z 9)])), (z 4, .inl (k.1 0, 66, .inl (ta_e g))), (z 9, .inl (k.1 0, 66, .inl (ta_e g)))] := hD
          refine ta_iconst C 0 dX8_behind_26 (by decide) ?_
          refine lv_istore_n (lv' := [(3, .int (nI 0)), (0, .ref (z 0)), (1, .int (nI n)), (2, .int (nI w))]) hx hb dX8_behind_27 rfl hl (by decide) rfl (fun ls hl => ?_)
          have loop_28 : ∀ (N_28 : Nat) (i : Nat), (i ≤ n) → (n ≤ 99) → (w ≤ 4) → n - i < N_28 → ∀ (H : Heap) (locs : List Loc) (ls : Array Slot), va_P D vwCl [(z 0, .inr (8, [.ref (z 1), .int (nI ty), .ref (z 2), .ref (z 3), .ref (z 4), .ref (z 5), .int (nI kn), .ref (z 6), .ref (z 7), .ref (z 8), .int (nI no), .int (nI at_), .int (nI so), .int (nI sr), .int (nI va), .ref (z 9)])), (z 2, .inl (k.1 0, 23, .inl (ta_e t))), (z 4, .inl (k.1 0, 66, .inl (ta_e (tg_it t g i)))), (z 9, .inl (k.1 0, 66, .inl (ta_e g)))] H → va_D A [(z 0, .inr (8, [.ref (z 1), .int (nI ty), .ref (z 2), .ref (z 3), .ref (z 4), .ref (z 5), .int (nI kn), .ref (z 6), .ref (z 7), .ref (z 8), .int (nI no), .int (nI at_), .int (nI so), .int (nI sr), .int (nI va), .ref (z 9)])), (z 2, .inl (k.1 0, 23, .inl (ta_e t))), (z 4, .inl (k.1 0, 66, .inl (ta_e (tg_it t g i)))), (z 9, .inl (k.1 0, 66, .inl (ta_e g)))] → va_S A s.heap H locs → lv_has ls 4 [(3, .int (nI i)), (0, .ref (z 0)), (1, .int (nI n)), (2, .int (nI w))] → W p l e ({ frames := 3, cells := 0, slots := 0, locals := 100 }) s m ([.ref (z 0), .int (nI n), .int (nI w)] : List Value).toArray below meth c H locs 0 0 Q (F0 m 28 ls []) := by
            clear hP hD hS hl
            intro N_28
            induction N_28 with
            | zero =>
              intro i h1 hn99 hw4 hf_28
              exact absurd hf_28 (Nat.not_lt_zero _)
            | succ N_28 ih_28 =>
              intro i h1 hn99 hw4 hf_28 H locs ls hP hD hS hl
              refine lv_iload_n hx hb dX8_behind_28 rfl (lv_at hl 0 rfl) ?_
              refine lv_iload_n hx hb dX8_behind_29 rfl (lv_at hl 2 rfl) ?_
              refine ta_cge C (a := i) (b := n) (tgt := 44) (by omega) (by omega) dX8_behind_30 (by decide) (fun c14 => ?_) (fun c14 => ?_)
              · obtain rfl : n = i := by omega
                have hlt : tg_it t g n 2 < 36 := by obtain ⟨⟨a1, a2, a3, a4, -, -⟩, -, b2, -⟩ := tg_ok_it hok n; exact Nat.lt_of_lt_of_le b2 (tg_36 a2 a4)
                refine lv_iload_n hx hb dX8_behind_44 rfl (lv_at hl 3 rfl) ?_
                refine ta_ine C (a := w) (tgt := 57) (by omega) dX8_behind_45 (by decide) (fun c15 => ?_) (fun c15 => ?_)
                · refine lv_iload_n hx hb dX8_behind_57 rfl (lv_at hl 3 rfl) ?_
                  refine ta_iconst C 1 dX8_behind_58 (by decide) ?_
                  refine ta_cne C (a := w) (b := 1) (tgt := 71) (by omega) (by omega) dX8_behind_59 (by decide) (fun c16 => ?_) (fun c16 => ?_)
                  · refine lv_iload_n hx hb dX8_behind_71 rfl (lv_at hl 3 rfl) ?_
                    refine ta_iconst C 2 dX8_behind_72 (by decide) ?_
                    refine ta_cne C (a := w) (b := 2) (tgt := 93) (by omega) (by omega) dX8_behind_73 (by decide) (fun c17 => ?_) (fun c17 => ?_)
                    · refine lv_aload_n hx hb dX8_behind_93 rfl (lv_at hl 1 rfl) ?_
                      refine ta_get C hP 0 inlX8 rfl rfl 4 (by decide) tw_128 rfl dX8_behind_94 ?_
                      refine ta_bipush C 24 dX8_behind_97 (by decide) ?_
                      refine lv_iload_n hx hb dX8_behind_99 rfl (lv_at hl 3 rfl) ?_
                      refine ta_iadd C (a := 24) (b := w) dX8_behind_100 ?_
                      refine ta_iconst C 3 dX8_behind_101 (by decide) ?_
                      refine ta_isub C (a := 24 + w) (b := 3) (by omega) dX8_behind_102 ?_
                      refine ta_iald C hP 2 rfl (i := (24 + w) - 3) (by omega) dX8_behind_103 ?_
                      refine lv_istore_n (lv' := [(3, .int (nI ((tg_it t g n) ((24 + w) - 3)))), (0, .ref (z 0)), (1, .int (nI n)), (2, .int (nI w))]) hx hb dX8_behind_104 rfl hl (by decide) rfl (fun ls hl => ?_)
                      refine lv_aload_n hx hb dX8_behind_105 rfl (lv_at hl 1 rfl) ?_
                      refine ta_callVv (As := []) (rest0 := []) (Wr := [(z 2, .inl (k.1 0, 23, .inl (ta_e t)))]) C hP hD hS (c_X8_lets l D k z ty kn no at_ so sr va (tg_it t g n) g) 0 rfl rfl rfl [0, 2, 3] [1] rfl rfl (by decide) (by decide) (by decide) tw_564 tw_561 tw_5 tw_562 tw_563 ⟨by decide, by decide, rfl⟩ ⟨Nat.le_of_ble_eq_true rfl, Nat.le_of_ble_eq_true rfl⟩ ⟨Nat.zero_le _, Nat.zero_le _⟩ hl.1 rfl (Nat.le_of_ble_eq_true rfl) dX8_behind_106 (fun u19 H locs h20 hP hD hS => ?_)
                      have hP : va_P D vwCl [(z 2, .inl (k.1 0, 23, .inl (ta_e t))), (z 0, .inr (8, [.ref (z 1), .int (nI ty), .ref (z 2), .ref (z 3), .ref (z 4), .ref (z 5), .int (nI kn), .ref (z 6), .ref (z 7), .ref (z 8), .int (nI no), .int (nI at_), .int (nI so), .int (nI sr), .int (nI va), .ref (z 9)])), (z 4, .inl (k.1 0, 66, .inl (ta_e g))), (z 9, .inl (k.1 0, 66, .inl (ta_e g)))] H := hP
                      have hD : va_D A [(z 2, .inl (k.1 0, 23, .inl (ta_e t))), (z 0, .inr (8, [.ref (z 1), .int (nI ty), .ref (z 2), .ref (z 3), .ref (z 4), .ref (z 5), .int (nI kn), .ref (z 6), .ref (z 7), .ref (z 8), .int (nI no), .int (nI at_), .int (nI so), .int (nI sr), .int (nI va), .ref (z 9)])), (z 4, .inl (k.1 0, 66, .inl (ta_e g))), (z 9, .inl (k.1 0, 66, .inl (ta_e g)))] := hD
                      refine lv_iload_n hx hb dX8_behind_109 rfl (lv_at hl 0 rfl) ?_
                      have hP : va_P D vwCl [(z 0, .inr (8, [.ref (z 1), .int (nI ty), .ref (z 2), .ref (z 3), .ref (z 4), .ref (z 5), .int (nI kn), .ref (z 6), .ref (z 7), .ref (z 8), .int (nI no), .int (nI at_), .int (nI so), .int (nI sr), .int (nI va), .ref (z 9)])), (z 2, .inl (k.1 0, 23, .inl (ta_e t))), (z 4, .inl (k.1 0, 66, .inl (ta_e g))), (z 9, .inl (k.1 0, 66, .inl (ta_e g)))] H := hP.sub [1, 0, 2, 3] rfl
                      have hD : va_D A [(z 0, .inr (8, [.ref (z 1), .int (nI ty), .ref (z 2), .ref (z 3), .ref (z 4), .ref (z 5), .int (nI kn), .ref (z 6), .ref (z 7), .ref (z 8), .int (nI no), .int (nI at_), .int (nI so), .int (nI sr), .int (nI va), .ref (z 9)])), (z 2, .inl (k.1 0, 23, .inl (ta_e t))), (z 4, .inl (k.1 0, 66, .inl (ta_e g))), (z 9, .inl (k.1 0, 66, .inl (ta_e g)))] := hD.sub [1, 0, 2, 3] (by decide) rfl
                      have e1 : sp_behind t g n w = (tg_it t g n) ((24 + w) - 3) := by
                        unfold sp_behind
                        rw [if_pos (by omega)]
                        rw [if_neg (by omega), if_neg (by omega), if_neg (by omega)]
                        congr 1
                        omega
                      exact ret _ g dX8_behind_110 rfl (by rw [e1]) hP hD hS
                    · refine lv_aload_n hx hb dX8_behind_76 rfl (lv_at hl 1 rfl) ?_
                      refine ta_get C hP 0 inlX8 rfl rfl 4 (by decide) tw_128 rfl dX8_behind_77 ?_
                      refine ta_bipush C 30 dX8_behind_80 (by decide) ?_
                      refine lv_aload_n hx hb dX8_behind_82 rfl (lv_at hl 1 rfl) ?_
                      refine ta_get C hP 0 inlX8 rfl rfl 4 (by decide) tw_128 rfl dX8_behind_83 ?_
                      refine ta_iconst C 2 dX8_behind_86 (by decide) ?_
                      refine ta_iald C hP 2 rfl (i := 2) (by omega) dX8_behind_87 ?_
                      refine ta_iadd C (a := 30) (b := (tg_it t g n) 2) dX8_behind_88 ?_
                      refine ta_iald C hP 2 rfl (i := 30 + ((tg_it t g n) 2)) (by omega) dX8_behind_89 ?_
                      refine lv_goto (tgt := 104) hx hb dX8_behind_90 (by decide) ?_
                      refine lv_istore_n (lv' := [(3, .int (nI ((tg_it t g n) (30 + ((tg_it t g n) 2))))), (0, .ref (z 0)), (1, .int (nI n)), (2, .int (nI w))]) hx hb dX8_behind_104 rfl hl (by decide) rfl (fun ls hl => ?_)
                      refine lv_aload_n hx hb dX8_behind_105 rfl (lv_at hl 1 rfl) ?_
                      refine ta_callVv (As := []) (rest0 := []) (Wr := [(z 2, .inl (k.1 0, 23, .inl (ta_e t)))]) C hP hD hS (c_X8_lets l D k z ty kn no at_ so sr va (tg_it t g n) g) 0 rfl rfl rfl [0, 2, 3] [1] rfl rfl (by decide) (by decide) (by decide) tw_564 tw_561 tw_5 tw_562 tw_563 ⟨by decide, by decide, rfl⟩ ⟨Nat.le_of_ble_eq_true rfl, Nat.le_of_ble_eq_true rfl⟩ ⟨Nat.zero_le _, Nat.zero_le _⟩ hl.1 rfl (Nat.le_of_ble_eq_true rfl) dX8_behind_106 (fun u22 H locs h23 hP hD hS => ?_)
                      have hP : va_P D vwCl [(z 2, .inl (k.1 0, 23, .inl (ta_e t))), (z 0, .inr (8, [.ref (z 1), .int (nI ty), .ref (z 2), .ref (z 3), .ref (z 4), .ref (z 5), .int (nI kn), .ref (z 6), .ref (z 7), .ref (z 8), .int (nI no), .int (nI at_), .int (nI so), .int (nI sr), .int (nI va), .ref (z 9)])), (z 4, .inl (k.1 0, 66, .inl (ta_e g))), (z 9, .inl (k.1 0, 66, .inl (ta_e g)))] H := hP
                      have hD : va_D A [(z 2, .inl (k.1 0, 23, .inl (ta_e t))), (z 0, .inr (8, [.ref (z 1), .int (nI ty), .ref (z 2), .ref (z 3), .ref (z 4), .ref (z 5), .int (nI kn), .ref (z 6), .ref (z 7), .ref (z 8), .int (nI no), .int (nI at_), .int (nI so), .int (nI sr), .int (nI va), .ref (z 9)])), (z 4, .inl (k.1 0, 66, .inl (ta_e g))), (z 9, .inl (k.1 0, 66, .inl (ta_e g)))] := hD
                      refine lv_iload_n hx hb dX8_behind_109 rfl (lv_at hl 0 rfl) ?_
                      have hP : va_P D vwCl [(z 0, .inr (8, [.ref (z 1), .int (nI ty), .ref (z 2), .ref (z 3), .ref (z 4), .ref (z 5), .int (nI kn), .ref (z 6), .ref (z 7), .ref (z 8), .int (nI no), .int (nI at_), .int (nI so), .int (nI sr), .int (nI va), .ref (z 9)])), (z 2, .inl (k.1 0, 23, .inl (ta_e t))), (z 4, .inl (k.1 0, 66, .inl (ta_e g))), (z 9, .inl (k.1 0, 66, .inl (ta_e g)))] H := hP.sub [1, 0, 2, 3] rfl
                      have hD : va_D A [(z 0, .inr (8, [.ref (z 1), .int (nI ty), .ref (z 2), .ref (z 3), .ref (z 4), .ref (z 5), .int (nI kn), .ref (z 6), .ref (z 7), .ref (z 8), .int (nI no), .int (nI at_), .int (nI so), .int (nI sr), .int (nI va), .ref (z 9)])), (z 2, .inl (k.1 0, 23, .inl (ta_e t))), (z 4, .inl (k.1 0, 66, .inl (ta_e g))), (z 9, .inl (k.1 0, 66, .inl (ta_e g)))] := hD.sub [1, 0, 2, 3] (by decide) rfl
                      have e1 : sp_behind t g n w = (tg_it t g n) (30 + ((tg_it t g n) 2)) := by
                        unfold sp_behind
                        rw [if_pos (by omega)]
                        rw [if_neg (by omega), if_neg (by omega), if_pos (by omega)]
                      exact ret _ g dX8_behind_110 rfl (by rw [e1]) hP hD hS
                  · refine lv_aload_n hx hb dX8_behind_62 rfl (lv_at hl 1 rfl) ?_
                    refine ta_get C hP 0 inlX8 rfl rfl 4 (by decide) tw_128 rfl dX8_behind_63 ?_
                    refine ta_iconst C 3 dX8_behind_66 (by decide) ?_
                    refine ta_iald C hP 2 rfl (i := 3) (by omega) dX8_behind_67 ?_
                    refine lv_goto (tgt := 104) hx hb dX8_behind_68 (by decide) ?_
                    refine lv_istore_n (lv' := [(3, .int (nI ((tg_it t g n) 3))), (0, .ref (z 0)), (1, .int (nI n)), (2, .int (nI w))]) hx hb dX8_behind_104 rfl hl (by decide) rfl (fun ls hl => ?_)
                    refine lv_aload_n hx hb dX8_behind_105 rfl (lv_at hl 1 rfl) ?_
                    refine ta_callVv (As := []) (rest0 := []) (Wr := [(z 2, .inl (k.1 0, 23, .inl (ta_e t)))]) C hP hD hS (c_X8_lets l D k z ty kn no at_ so sr va (tg_it t g n) g) 0 rfl rfl rfl [0, 2, 3] [1] rfl rfl (by decide) (by decide) (by decide) tw_564 tw_561 tw_5 tw_562 tw_563 ⟨by decide, by decide, rfl⟩ ⟨Nat.le_of_ble_eq_true rfl, Nat.le_of_ble_eq_true rfl⟩ ⟨Nat.zero_le _, Nat.zero_le _⟩ hl.1 rfl (Nat.le_of_ble_eq_true rfl) dX8_behind_106 (fun u25 H locs h26 hP hD hS => ?_)
                    have hP : va_P D vwCl [(z 2, .inl (k.1 0, 23, .inl (ta_e t))), (z 0, .inr (8, [.ref (z 1), .int (nI ty), .ref (z 2), .ref (z 3), .ref (z 4), .ref (z 5), .int (nI kn), .ref (z 6), .ref (z 7), .ref (z 8), .int (nI no), .int (nI at_), .int (nI so), .int (nI sr), .int (nI va), .ref (z 9)])), (z 4, .inl (k.1 0, 66, .inl (ta_e g))), (z 9, .inl (k.1 0, 66, .inl (ta_e g)))] H := hP
                    have hD : va_D A [(z 2, .inl (k.1 0, 23, .inl (ta_e t))), (z 0, .inr (8, [.ref (z 1), .int (nI ty), .ref (z 2), .ref (z 3), .ref (z 4), .ref (z 5), .int (nI kn), .ref (z 6), .ref (z 7), .ref (z 8), .int (nI no), .int (nI at_), .int (nI so), .int (nI sr), .int (nI va), .ref (z 9)])), (z 4, .inl (k.1 0, 66, .inl (ta_e g))), (z 9, .inl (k.1 0, 66, .inl (ta_e g)))] := hD
                    refine lv_iload_n hx hb dX8_behind_109 rfl (lv_at hl 0 rfl) ?_
                    have hP : va_P D vwCl [(z 0, .inr (8, [.ref (z 1), .int (nI ty), .ref (z 2), .ref (z 3), .ref (z 4), .ref (z 5), .int (nI kn), .ref (z 6), .ref (z 7), .ref (z 8), .int (nI no), .int (nI at_), .int (nI so), .int (nI sr), .int (nI va), .ref (z 9)])), (z 2, .inl (k.1 0, 23, .inl (ta_e t))), (z 4, .inl (k.1 0, 66, .inl (ta_e g))), (z 9, .inl (k.1 0, 66, .inl (ta_e g)))] H := hP.sub [1, 0, 2, 3] rfl
                    have hD : va_D A [(z 0, .inr (8, [.ref (z 1), .int (nI ty), .ref (z 2), .ref (z 3), .ref (z 4), .ref (z 5), .int (nI kn), .ref (z 6), .ref (z 7), .ref (z 8), .int (nI no), .int (nI at_), .int (nI so), .int (nI sr), .int (nI va), .ref (z 9)])), (z 2, .inl (k.1 0, 23, .inl (ta_e t))), (z 4, .inl (k.1 0, 66, .inl (ta_e g))), (z 9, .inl (k.1 0, 66, .inl (ta_e g)))] := hD.sub [1, 0, 2, 3] (by decide) rfl
                    have e1 : sp_behind t g n w = (tg_it t g n) 3 := by
                      unfold sp_behind
                      rw [if_pos (by omega)]
                      rw [if_neg (by omega), if_pos (by omega)]
                    exact ret _ g dX8_behind_110 rfl (by rw [e1]) hP hD hS
                · refine lv_aload_n hx hb dX8_behind_48 rfl (lv_at hl 1 rfl) ?_
                  refine ta_get C hP 0 inlX8 rfl rfl 4 (by decide) tw_128 rfl dX8_behind_49 ?_
                  refine ta_iconst C 2 dX8_behind_52 (by decide) ?_
                  refine ta_iald C hP 2 rfl (i := 2) (by omega) dX8_behind_53 ?_
                  refine lv_goto (tgt := 104) hx hb dX8_behind_54 (by decide) ?_
                  refine lv_istore_n (lv' := [(3, .int (nI ((tg_it t g n) 2))), (0, .ref (z 0)), (1, .int (nI n)), (2, .int (nI w))]) hx hb dX8_behind_104 rfl hl (by decide) rfl (fun ls hl => ?_)
                  refine lv_aload_n hx hb dX8_behind_105 rfl (lv_at hl 1 rfl) ?_
                  refine ta_callVv (As := []) (rest0 := []) (Wr := [(z 2, .inl (k.1 0, 23, .inl (ta_e t)))]) C hP hD hS (c_X8_lets l D k z ty kn no at_ so sr va (tg_it t g n) g) 0 rfl rfl rfl [0, 2, 3] [1] rfl rfl (by decide) (by decide) (by decide) tw_564 tw_561 tw_5 tw_562 tw_563 ⟨by decide, by decide, rfl⟩ ⟨Nat.le_of_ble_eq_true rfl, Nat.le_of_ble_eq_true rfl⟩ ⟨Nat.zero_le _, Nat.zero_le _⟩ hl.1 rfl (Nat.le_of_ble_eq_true rfl) dX8_behind_106 (fun u28 H locs h29 hP hD hS => ?_)
                  have hP : va_P D vwCl [(z 2, .inl (k.1 0, 23, .inl (ta_e t))), (z 0, .inr (8, [.ref (z 1), .int (nI ty), .ref (z 2), .ref (z 3), .ref (z 4), .ref (z 5), .int (nI kn), .ref (z 6), .ref (z 7), .ref (z 8), .int (nI no), .int (nI at_), .int (nI so), .int (nI sr), .int (nI va), .ref (z 9)])), (z 4, .inl (k.1 0, 66, .inl (ta_e g))), (z 9, .inl (k.1 0, 66, .inl (ta_e g)))] H := hP
                  have hD : va_D A [(z 2, .inl (k.1 0, 23, .inl (ta_e t))), (z 0, .inr (8, [.ref (z 1), .int (nI ty), .ref (z 2), .ref (z 3), .ref (z 4), .ref (z 5), .int (nI kn), .ref (z 6), .ref (z 7), .ref (z 8), .int (nI no), .int (nI at_), .int (nI so), .int (nI sr), .int (nI va), .ref (z 9)])), (z 4, .inl (k.1 0, 66, .inl (ta_e g))), (z 9, .inl (k.1 0, 66, .inl (ta_e g)))] := hD
                  refine lv_iload_n hx hb dX8_behind_109 rfl (lv_at hl 0 rfl) ?_
                  have hP : va_P D vwCl [(z 0, .inr (8, [.ref (z 1), .int (nI ty), .ref (z 2), .ref (z 3), .ref (z 4), .ref (z 5), .int (nI kn), .ref (z 6), .ref (z 7), .ref (z 8), .int (nI no), .int (nI at_), .int (nI so), .int (nI sr), .int (nI va), .ref (z 9)])), (z 2, .inl (k.1 0, 23, .inl (ta_e t))), (z 4, .inl (k.1 0, 66, .inl (ta_e g))), (z 9, .inl (k.1 0, 66, .inl (ta_e g)))] H := hP.sub [1, 0, 2, 3] rfl
                  have hD : va_D A [(z 0, .inr (8, [.ref (z 1), .int (nI ty), .ref (z 2), .ref (z 3), .ref (z 4), .ref (z 5), .int (nI kn), .ref (z 6), .ref (z 7), .ref (z 8), .int (nI no), .int (nI at_), .int (nI so), .int (nI sr), .int (nI va), .ref (z 9)])), (z 2, .inl (k.1 0, 23, .inl (ta_e t))), (z 4, .inl (k.1 0, 66, .inl (ta_e g))), (z 9, .inl (k.1 0, 66, .inl (ta_e g)))] := hD.sub [1, 0, 2, 3] (by decide) rfl
                  have e1 : sp_behind t g n w = (tg_it t g n) 2 := by
                    unfold sp_behind
                    rw [if_pos (by omega)]
                    rw [if_pos (by omega)]
                  exact ret _ g dX8_behind_110 rfl (by rw [e1]) hP hD hS
              · refine lv_aload_n hx hb dX8_behind_33 rfl (lv_at hl 1 rfl) ?_
                refine ta_callVi (As := []) (rest0 := []) (Wr := [(z 9, .inl (k.1 0, 66, .inl (ta_e g)))]) C hP hD hS (c_X8_goes l D k z ty kn no at_ so sr va t (tg_it t g i) (tg_ok_it hok i) (by have := tg_it_0 hok i; omega)) 0 rfl rfl rfl [0, 1, 2] [3] rfl rfl (by decide) (by decide) (by decide) tw_481 tw_478 tw_5 tw_479 tw_480 ⟨by decide, by decide, rfl⟩ ⟨Nat.le_of_ble_eq_true rfl, Nat.le_of_ble_eq_true rfl⟩ ⟨Nat.zero_le _, Nat.zero_le _⟩ hl.1 rfl (Nat.le_of_ble_eq_true rfl) dX8_behind_34 (fun r30 u31 H locs h32 hP hD hS => ?_)
                obtain rfl := h32
                have hP : va_P D vwCl [(z 9, .inl (k.1 0, 66, .inl (ta_e g))), (z 0, .inr (8, [.ref (z 1), .int (nI ty), .ref (z 2), .ref (z 3), .ref (z 4), .ref (z 5), .int (nI kn), .ref (z 6), .ref (z 7), .ref (z 8), .int (nI no), .int (nI at_), .int (nI so), .int (nI sr), .int (nI va), .ref (z 9)])), (z 2, .inl (k.1 0, 23, .inl (ta_e t))), (z 4, .inl (k.1 0, 66, .inl (ta_e (tg_go t (tg_it t g i)))))] H := hP
                have hD : va_D A [(z 9, .inl (k.1 0, 66, .inl (ta_e g))), (z 0, .inr (8, [.ref (z 1), .int (nI ty), .ref (z 2), .ref (z 3), .ref (z 4), .ref (z 5), .int (nI kn), .ref (z 6), .ref (z 7), .ref (z 8), .int (nI no), .int (nI at_), .int (nI so), .int (nI sr), .int (nI va), .ref (z 9)])), (z 2, .inl (k.1 0, 23, .inl (ta_e t))), (z 4, .inl (k.1 0, 66, .inl (ta_e (tg_go t (tg_it t g i)))))] := hD
                refine lv_pop hx hb dX8_behind_37 rfl ?_
                refine lv_iinc (v := nI (i + 1)) (lv' := [(3, .int (nI (i + 1))), (0, .ref (z 0)), (1, .int (nI n)), (2, .int (nI w))]) hx hb dX8_behind_38 hl (k := 0) rfl (ta_inc1 _) (by decide) rfl (fun ls hl => ?_)
                refine lv_goto (tgt := 28) hx hb dX8_behind_41 (by decide) ?_
                exact ih_28 (i + 1) (by omega) (by omega) (by omega) (by omega) _ _ _ (hP.sub [1, 2, 3, 0] rfl) (hD.sub [1, 2, 3, 0] (by decide) rfl) hS (lv_sub hl [0, 1, 2, 3] rfl)
          exact loop_28 ((n - 0) + 1) 0 (by omega) (by omega) (by omega) (Nat.lt_succ_self _) _ _ _ (hP.sub [1, 0, 2, 3] rfl) (hD.sub [1, 0, 2, 3] (by decide) rfl) hS (lv_sub hl [0, 1, 2, 3] rfl)
        · exact absurd c10 (by decide)
      · obtain ⟨hi33, rfl⟩ := h0
        have hP : va_P D vwCl [(z 0, .inr (8, [.ref (z 1), .int (nI ty), .ref (z 2), .ref (z 3), .ref (z 4), .ref (z 5), .int (nI kn), .ref (z 6), .ref (z 7), .ref (z 8), .int (nI no), .int (nI at_), .int (nI so), .int (nI sr), .int (nI va), .ref (z 9)])), (z 2, .inl (k.1 0, 23, .inl (ta_e t))), (z 4, .inl (k.1 0, 66, .inl (ta_e g))), (z 9, .inl (k.1 0, 66, .inl (ta_e hd)))] H := hP
        have hD : va_D A [(z 0, .inr (8, [.ref (z 1), .int (nI ty), .ref (z 2), .ref (z 3), .ref (z 4), .ref (z 5), .int (nI kn), .ref (z 6), .ref (z 7), .ref (z 8), .int (nI no), .int (nI at_), .int (nI so), .int (nI sr), .int (nI va), .ref (z 9)])), (z 2, .inl (k.1 0, 23, .inl (ta_e t))), (z 4, .inl (k.1 0, 66, .inl (ta_e g))), (z 9, .inl (k.1 0, 66, .inl (ta_e hd)))] := hD
        refine lv_if_ne (tgt := 22) hx hb dX8_behind_16 (by decide) (fun c34 => ?_) (fun c34 => ?_)
        · exact absurd c34 (by decide)
        · refine ta_bipush C 4294967293 dX8_behind_19 (by decide) ?_
          have e1 : sp_behind t g n w = 4294967293 := by unfold sp_behind; rw [if_neg (by omega)]
          exact ret _ hd dX8_behind_21 rfl (by rw [e1]) hP hD hS
  · obtain ⟨hi35, rfl⟩ := h0
    have hP : va_P D vwCl [(z 0, .inr (8, [.ref (z 1), .int (nI ty), .ref (z 2), .ref (z 3), .ref (z 4), .ref (z 5), .int (nI kn), .ref (z 6), .ref (z 7), .ref (z 8), .int (nI no), .int (nI at_), .int (nI so), .int (nI sr), .int (nI va), .ref (z 9)])), (z 2, .inl (k.1 0, 23, .inl (ta_e t))), (z 4, .inl (k.1 0, 66, .inl (ta_e g))), (z 9, .inl (k.1 0, 66, .inl (ta_e hd)))] H := hP
    have hD : va_D A [(z 0, .inr (8, [.ref (z 1), .int (nI ty), .ref (z 2), .ref (z 3), .ref (z 4), .ref (z 5), .int (nI kn), .ref (z 6), .ref (z 7), .ref (z 8), .int (nI no), .int (nI at_), .int (nI so), .int (nI sr), .int (nI va), .ref (z 9)])), (z 2, .inl (k.1 0, 23, .inl (ta_e t))), (z 4, .inl (k.1 0, 66, .inl (ta_e g))), (z 9, .inl (k.1 0, 66, .inl (ta_e hd)))] := hD
    refine lv_if_eq (tgt := 19) hx hb dX8_behind_7 (by decide) (fun c36 => ?_) (fun c36 => ?_)
    · refine ta_bipush C 4294967293 dX8_behind_19 (by decide) ?_
      have e1 : sp_behind t g n w = 4294967293 := by unfold sp_behind; rw [if_neg (by omega)]
      exact ret _ hd dX8_behind_21 rfl (by rw [e1]) hP hD hS
    · exact absurd c36 (by decide)

set_option maxHeartbeats 4000000 in
set_option maxRecDepth 100000 in
theorem c_X8_first (l : Launch) (D : va_G) (k : ta_C) (z : Nat → Nat) (ty : Nat) (kn : Nat) (no : Nat) (at_ : Nat) (so : Nat) (sr : Nat) (va : Nat) (t : Nat → Nat) (g : Nat → Nat) (hd : Nat → Nat) (a : Nat) (hok : tg_ok t g) (hh0 : g 0 < 1073741824) (hh1 : g 0 < 1000000) (wa : a < 4294967296) : ta_Mi (S := Nat → Nat) l D k yX8_first cX8_first 4 .int 3 100 [.ref (z 0), .int (nI a)] [(z 0, .inr (8, [.ref (z 1), .int (nI ty), .ref (z 2), .ref (z 3), .ref (z 4), .ref (z 5), .int (nI kn), .ref (z 6), .ref (z 7), .ref (z 8), .int (nI no), .int (nI at_), .int (nI so), .int (nI sr), .int (nI va), .ref (z 9)])), (z 2, .inl (k.1 0, 23, .inl (ta_e t))), (z 4, .inl (k.1 0, 66, .inl (ta_e g))), (z 9, .inl (k.1 0, 66, .inl (ta_e hd)))] (fun r _ => r = nI (sp_first t g a)) (fun u => [(z 0, .inr (8, [.ref (z 1), .int (nI ty), .ref (z 2), .ref (z 3), .ref (z 4), .ref (z 5), .int (nI kn), .ref (z 6), .ref (z 7), .ref (z 8), .int (nI no), .int (nI at_), .int (nI so), .int (nI sr), .int (nI va), .ref (z 9)])), (z 2, .inl (k.1 0, 23, .inl (ta_e t))), (z 4, .inl (k.1 0, 66, .inl (ta_e g))), (z 9, .inl (k.1 0, 66, .inl (ta_e u)))]) := by
  refine ta_enter_i (by decide) (Nat.le_of_ble_eq_true rfl) ?_
  intro p e s m below meth c A ls Q C ret hP hD hS hl
  have C : ta_At p l D k s m ([.ref (z 0), .int (nI a)] : List Value).toArray c RX8 cX8_first 4 A := C
  have hx := C.1.1
  have hb := C.1.2.1
  have hl : lv_has ls 4 [(0, .ref (z 0)), (1, .int (nI a))] := hl
  obtain ⟨H, hH⟩ : ∃ H, H = s.heap := ⟨_, rfl⟩
  obtain ⟨locs, hlocs⟩ : ∃ q : List Loc, q = [] := ⟨_, rfl⟩
  have hP : va_P D vwCl [(z 0, .inr (8, [.ref (z 1), .int (nI ty), .ref (z 2), .ref (z 3), .ref (z 4), .ref (z 5), .int (nI kn), .ref (z 6), .ref (z 7), .ref (z 8), .int (nI no), .int (nI at_), .int (nI so), .int (nI sr), .int (nI va), .ref (z 9)])), (z 2, .inl (k.1 0, 23, .inl (ta_e t))), (z 4, .inl (k.1 0, 66, .inl (ta_e g))), (z 9, .inl (k.1 0, 66, .inl (ta_e hd)))] H := by rw [hH]; exact hP
  have hS : va_S A s.heap H locs := by rw [hH, hlocs]; exact hS
  rw [← hlocs]
  suffices hgoal : W p l e ({ frames := 3, cells := 0, slots := 0, locals := 100 }) s m ([.ref (z 0), .int (nI a)] : List Value).toArray below meth c H locs 0 0 Q (F0 m 0 ls []) by rw [hH] at hgoal; exact hgoal
  clear hH hlocs
  refine lv_iload_n hx hb dX8_first_0 rfl (lv_at hl 1 rfl) ?_
  refine ta_iconst C 0 dX8_first_1 (by decide) ?_
  refine ta_iconst C 1 dX8_first_2 (by decide) ?_
  refine ta_callSi (As := [.int (nI a), .int (nI 0), .int (nI 1)]) (rest0 := []) (Wr := [(z 0, .inr (8, [.ref (z 1), .int (nI ty), .ref (z 2), .ref (z 3), .ref (z 4), .ref (z 5), .int (nI kn), .ref (z 6), .ref (z 7), .ref (z 8), .int (nI no), .int (nI at_), .int (nI so), .int (nI sr), .int (nI va), .ref (z 9)])), (z 2, .inl (k.1 0, 23, .inl (ta_e t))), (z 4, .inl (k.1 0, 66, .inl (ta_e g))), (z 9, .inl (k.1 0, 66, .inl (ta_e hd)))]) C hP hD hS (c_X8_in_w l D k a 0 1 (by omega) (by omega) (by omega)) [] [0, 1, 2, 3] rfl rfl (by decide) (by decide) (by decide) tw_159 tw_157 tw_5 tw_158 ⟨by decide, by decide, rfl⟩ ⟨Nat.le_of_ble_eq_true rfl, Nat.le_of_ble_eq_true rfl⟩ ⟨Nat.zero_le _, Nat.zero_le _⟩ hl.1 rfl (Nat.le_of_ble_eq_true rfl) dX8_first_3 (fun r1 u2 H locs h3 hP hD hS => ?_)
  rcases h3 with h0 | h0
  · obtain ⟨hi4, rfl⟩ := h0
    have hP : va_P D vwCl [(z 0, .inr (8, [.ref (z 1), .int (nI ty), .ref (z 2), .ref (z 3), .ref (z 4), .ref (z 5), .int (nI kn), .ref (z 6), .ref (z 7), .ref (z 8), .int (nI no), .int (nI at_), .int (nI so), .int (nI sr), .int (nI va), .ref (z 9)])), (z 2, .inl (k.1 0, 23, .inl (ta_e t))), (z 4, .inl (k.1 0, 66, .inl (ta_e g))), (z 9, .inl (k.1 0, 66, .inl (ta_e hd)))] H := hP
    have hD : va_D A [(z 0, .inr (8, [.ref (z 1), .int (nI ty), .ref (z 2), .ref (z 3), .ref (z 4), .ref (z 5), .int (nI kn), .ref (z 6), .ref (z 7), .ref (z 8), .int (nI no), .int (nI at_), .int (nI so), .int (nI sr), .int (nI va), .ref (z 9)])), (z 2, .inl (k.1 0, 23, .inl (ta_e t))), (z 4, .inl (k.1 0, 66, .inl (ta_e g))), (z 9, .inl (k.1 0, 66, .inl (ta_e hd)))] := hD
    refine lv_if_ne (tgt := 12) hx hb dX8_first_6 (by decide) (fun c5 => ?_) (fun c5 => ?_)
    · refine lv_aload_n hx hb dX8_first_12 rfl (lv_at hl 0 rfl) ?_
      refine ta_callVv (As := []) (rest0 := []) (Wr := [(z 2, .inl (k.1 0, 23, .inl (ta_e t)))]) C hP hD hS (c_X8_holds l D k z ty kn no at_ so sr va g hd) 0 rfl rfl rfl [0, 2, 3] [1] rfl rfl (by decide) (by decide) (by decide) tw_560 tw_557 tw_5 tw_558 tw_559 ⟨by decide, by decide, rfl⟩ ⟨Nat.le_of_ble_eq_true rfl, Nat.le_of_ble_eq_true rfl⟩ ⟨Nat.zero_le _, Nat.zero_le _⟩ hl.1 rfl (Nat.le_of_ble_eq_true rfl) dX8_first_13 (fun u7 H locs h8 hP hD hS => ?_)
      have hP : va_P D vwCl [(z 2, .inl (k.1 0, 23, .inl (ta_e t))), (z 0, .inr (8, [.ref (z 1), .int (nI ty), .ref (z 2), .ref (z 3), .ref (z 4), .ref (z 5), .int (nI kn), .ref (z 6), .ref (z 7), .ref (z 8), .int (nI no), .int (nI at_), .int (nI so), .int (nI sr), .int (nI va), .ref (z 9)])), (z 4, .inl (k.1 0, 66, .inl (ta_e g))), (z 9, .inl (k.1 0, 66, .inl (ta_e g)))] H := hP
      have hD : va_D A [(z 2, .inl (k.1 0, 23, .inl (ta_e t))), (z 0, .inr (8, [.ref (z 1), .int (nI ty), .ref (z 2), .ref (z 3), .ref (z 4), .ref (z 5), .int (nI kn), .ref (z 6), .ref (z 7), .ref (z 8), .int (nI no), .int (nI at_), .int (nI so), .int (nI sr), .int (nI va), .ref (z 9)])), (z 4, .inl (k.1 0, 66, .inl (ta_e g))), (z 9, .inl (k.1 0, 66, .inl (ta_e g)))] := hD
      refine ta_iconst C 4294967295 dX8_first_16 (by decide) ?_
      refine lv_istore_n (lv' := [(2, .int (nI 4294967295)), (0, .ref (z 0)), (1, .int (nI a))]) hx hb dX8_first_17 rfl hl (by decide) rfl (fun ls hl => ?_)
      refine ta_iconst C 1 dX8_first_18 (by decide) ?_
      refine lv_istore_n (lv' := [(3, .int (nI 1)), (2, .int (nI 4294967295)), (0, .ref (z 0)), (1, .int (nI a))]) hx hb dX8_first_19 rfl hl (by decide) rfl (fun ls hl => ?_)
      have loop_20 : ∀ (N_20 : Nat) (kx : Nat) (fo : Nat), (1 ≤ kx ∧ kx ≤ 100) → (a < 2) → ((fo = 4294967295 ∧ tg_fst t g a 99 0 = tg_fst t g a (100 - kx) (kx - 1)) ∨ (fo < 1000 ∧ tg_fst t g a 99 0 = fo)) → 100 - kx < N_20 → ∀ (H : Heap) (locs : List Loc) (ls : Array Slot), va_P D vwCl [(z 0, .inr (8, [.ref (z 1), .int (nI ty), .ref (z 2), .ref (z 3), .ref (z 4), .ref (z 5), .int (nI kn), .ref (z 6), .ref (z 7), .ref (z 8), .int (nI no), .int (nI at_), .int (nI so), .int (nI sr), .int (nI va), .ref (z 9)])), (z 2, .inl (k.1 0, 23, .inl (ta_e t))), (z 4, .inl (k.1 0, 66, .inl (ta_e (tg_it t g (kx - 1))))), (z 9, .inl (k.1 0, 66, .inl (ta_e g)))] H → va_D A [(z 0, .inr (8, [.ref (z 1), .int (nI ty), .ref (z 2), .ref (z 3), .ref (z 4), .ref (z 5), .int (nI kn), .ref (z 6), .ref (z 7), .ref (z 8), .int (nI no), .int (nI at_), .int (nI so), .int (nI sr), .int (nI va), .ref (z 9)])), (z 2, .inl (k.1 0, 23, .inl (ta_e t))), (z 4, .inl (k.1 0, 66, .inl (ta_e (tg_it t g (kx - 1))))), (z 9, .inl (k.1 0, 66, .inl (ta_e g)))] → va_S A s.heap H locs → lv_has ls 4 [(3, .int (nI kx)), (2, .int (nI fo)), (0, .ref (z 0)), (1, .int (nI a))] → W p l e ({ frames := 3, cells := 0, slots := 0, locals := 100 }) s m ([.ref (z 0), .int (nI a)] : List Value).toArray below meth c H locs 0 0 Q (F0 m 20 ls []) := by
        clear hP hD hS hl
        intro N_20
        induction N_20 with
        | zero =>
          intro kx fo h1 ha2 hf hf_20
          exact absurd hf_20 (Nat.not_lt_zero _)
        | succ N_20 ih_20 =>
          intro kx fo h1 ha2 hf hf_20 H locs ls hP hD hS hl
          refine lv_iload_n hx hb dX8_first_20 rfl (lv_at hl 0 rfl) ?_
          refine ta_bipush C 100 dX8_first_21 (by decide) ?_
          refine ta_cge C (a := kx) (b := 100) (tgt := 51) (by omega) (by omega) dX8_first_23 (by decide) (fun c9 => ?_) (fun c9 => ?_)
          · refine lv_aload_n hx hb dX8_first_51 rfl (lv_at hl 2 rfl) ?_
            refine ta_callVv (As := []) (rest0 := []) (Wr := [(z 2, .inl (k.1 0, 23, .inl (ta_e t)))]) C hP hD hS (c_X8_lets l D k z ty kn no at_ so sr va (tg_it t g (kx - 1)) g) 0 rfl rfl rfl [0, 2, 3] [1] rfl rfl (by decide) (by decide) (by decide) tw_564 tw_561 tw_5 tw_562 tw_563 ⟨by decide, by decide, rfl⟩ ⟨Nat.le_of_ble_eq_true rfl, Nat.le_of_ble_eq_true rfl⟩ ⟨Nat.zero_le _, Nat.zero_le _⟩ hl.1 rfl (Nat.le_of_ble_eq_true rfl) dX8_first_52 (fun u11 H locs h12 hP hD hS => ?_)
            have hP : va_P D vwCl [(z 2, .inl (k.1 0, 23, .inl (ta_e t))), (z 0, .inr (8, [.ref (z 1), .int (nI ty), .ref (z 2), .ref (z 3), .ref (z 4), .ref (z 5), .int (nI kn), .ref (z 6), .ref (z 7), .ref (z 8), .int (nI no), .int (nI at_), .int (nI so), .int (nI sr), .int (nI va), .ref (z 9)])), (z 4, .inl (k.1 0, 66, .inl (ta_e g))), (z 9, .inl (k.1 0, 66, .inl (ta_e g)))] H := hP
            have hD : va_D A [(z 2, .inl (k.1 0, 23, .inl (ta_e t))), (z 0, .inr (8, [.ref (z 1), .int (nI ty), .ref (z 2), .ref (z 3), .ref (z 4), .ref (z 5), .int (nI kn), .ref (z 6), .ref (z 7), .ref (z 8), .int (nI no), .int (nI at_), .int (nI so), .int (nI sr), .int (nI va), .ref (z 9)])), (z 4, .inl (k.1 0, 66, .inl (ta_e g))), (z 9, .inl (k.1 0, 66, .inl (ta_e g)))] := hD
            refine lv_iload_n hx hb dX8_first_55 rfl (lv_at hl 1 rfl) ?_
            have hP : va_P D vwCl [(z 0, .inr (8, [.ref (z 1), .int (nI ty), .ref (z 2), .ref (z 3), .ref (z 4), .ref (z 5), .int (nI kn), .ref (z 6), .ref (z 7), .ref (z 8), .int (nI no), .int (nI at_), .int (nI so), .int (nI sr), .int (nI va), .ref (z 9)])), (z 2, .inl (k.1 0, 23, .inl (ta_e t))), (z 4, .inl (k.1 0, 66, .inl (ta_e g))), (z 9, .inl (k.1 0, 66, .inl (ta_e g)))] H := hP.sub [1, 0, 2, 3] rfl
            have hD : va_D A [(z 0, .inr (8, [.ref (z 1), .int (nI ty), .ref (z 2), .ref (z 3), .ref (z 4), .ref (z 5), .int (nI kn), .ref (z 6), .ref (z 7), .ref (z 8), .int (nI no), .int (nI at_), .int (nI so), .int (nI sr), .int (nI va), .ref (z 9)])), (z 2, .inl (k.1 0, 23, .inl (ta_e t))), (z 4, .inl (k.1 0, 66, .inl (ta_e g))), (z 9, .inl (k.1 0, 66, .inl (ta_e g)))] := hD.sub [1, 0, 2, 3] (by decide) rfl
            have e1 : sp_first t g a = fo := by
              unfold sp_first
              rw [if_pos ha2]
              rcases hf with ⟨h8, h9⟩ | ⟨h8, h9⟩
              · first | omega | (rw [h9, show 100 - kx = 0 by omega, h8]; rfl)
              · exact h9
            exact ret _ g dX8_first_56 rfl (by rw [e1]) hP hD hS
          · refine lv_iload_n hx hb dX8_first_26 rfl (lv_at hl 1 rfl) ?_
            refine ta_iconst C 4294967295 dX8_first_27 (by decide) ?_
            refine ta_cne C (a := fo) (b := 4294967295) (tgt := 51) (by omega) (by omega) dX8_first_28 (by decide) (fun c13 => ?_) (fun c13 => ?_)
            · refine lv_aload_n hx hb dX8_first_51 rfl (lv_at hl 2 rfl) ?_
              refine ta_callVv (As := []) (rest0 := []) (Wr := [(z 2, .inl (k.1 0, 23, .inl (ta_e t)))]) C hP hD hS (c_X8_lets l D k z ty kn no at_ so sr va (tg_it t g (kx - 1)) g) 0 rfl rfl rfl [0, 2, 3] [1] rfl rfl (by decide) (by decide) (by decide) tw_564 tw_561 tw_5 tw_562 tw_563 ⟨by decide, by decide, rfl⟩ ⟨Nat.le_of_ble_eq_true rfl, Nat.le_of_ble_eq_true rfl⟩ ⟨Nat.zero_le _, Nat.zero_le _⟩ hl.1 rfl (Nat.le_of_ble_eq_true rfl) dX8_first_52 (fun u15 H locs h16 hP hD hS => ?_)
              have hP : va_P D vwCl [(z 2, .inl (k.1 0, 23, .inl (ta_e t))), (z 0, .inr (8, [.ref (z 1), .int (nI ty), .ref (z 2), .ref (z 3), .ref (z 4), .ref (z 5), .int (nI kn), .ref (z 6), .ref (z 7), .ref (z 8), .int (nI no), .int (nI at_), .int (nI so), .int (nI sr), .int (nI va), .ref (z 9)])), (z 4, .inl (k.1 0, 66, .inl (ta_e g))), (z 9, .inl (k.1 0, 66, .inl (ta_e g)))] H := hP
              have hD : va_D A [(z 2, .inl (k.1 0, 23, .inl (ta_e t))), (z 0, .inr (8, [.ref (z 1), .int (nI ty), .ref (z 2), .ref (z 3), .ref (z 4), .ref (z 5), .int (nI kn), .ref (z 6), .ref (z 7), .ref (z 8), .int (nI no), .int (nI at_), .int (nI so), .int (nI sr), .int (nI va), .ref (z 9)])), (z 4, .inl (k.1 0, 66, .inl (ta_e g))), (z 9, .inl (k.1 0, 66, .inl (ta_e g)))] := hD
              refine lv_iload_n hx hb dX8_first_55 rfl (lv_at hl 1 rfl) ?_
              have hP : va_P D vwCl [(z 0, .inr (8, [.ref (z 1), .int (nI ty), .ref (z 2), .ref (z 3), .ref (z 4), .ref (z 5), .int (nI kn), .ref (z 6), .ref (z 7), .ref (z 8), .int (nI no), .int (nI at_), .int (nI so), .int (nI sr), .int (nI va), .ref (z 9)])), (z 2, .inl (k.1 0, 23, .inl (ta_e t))), (z 4, .inl (k.1 0, 66, .inl (ta_e g))), (z 9, .inl (k.1 0, 66, .inl (ta_e g)))] H := hP.sub [1, 0, 2, 3] rfl
              have hD : va_D A [(z 0, .inr (8, [.ref (z 1), .int (nI ty), .ref (z 2), .ref (z 3), .ref (z 4), .ref (z 5), .int (nI kn), .ref (z 6), .ref (z 7), .ref (z 8), .int (nI no), .int (nI at_), .int (nI so), .int (nI sr), .int (nI va), .ref (z 9)])), (z 2, .inl (k.1 0, 23, .inl (ta_e t))), (z 4, .inl (k.1 0, 66, .inl (ta_e g))), (z 9, .inl (k.1 0, 66, .inl (ta_e g)))] := hD.sub [1, 0, 2, 3] (by decide) rfl
              have e1 : sp_first t g a = fo := by
                unfold sp_first
                rw [if_pos ha2]
                rcases hf with ⟨h8, h9⟩ | ⟨h8, h9⟩
                · first | omega | (rw [h9, show 100 - kx = 0 by omega, h8]; rfl)
                · exact h9
              exact ret _ g dX8_first_56 rfl (by rw [e1]) hP hD hS
            · obtain rfl := c13
              have hfa : tg_fst t g a 99 0 = tg_fst t g a (100 - kx) (kx - 1) := by
                rcases hf with h8 | h8
                · exact h8.2
                · exact absurd h8.1 (by omega)
              refine lv_aload_n hx hb dX8_first_31 rfl (lv_at hl 2 rfl) ?_
              refine ta_callVi (As := []) (rest0 := []) (Wr := [(z 9, .inl (k.1 0, 66, .inl (ta_e g)))]) C hP hD hS (c_X8_goes l D k z ty kn no at_ so sr va t (tg_it t g (kx - 1)) (tg_ok_it hok (kx - 1)) (by have := tg_it_0 hok (kx - 1); omega)) 0 rfl rfl rfl [0, 1, 2] [3] rfl rfl (by decide) (by decide) (by decide) tw_481 tw_478 tw_5 tw_479 tw_480 ⟨by decide, by decide, rfl⟩ ⟨Nat.le_of_ble_eq_true rfl, Nat.le_of_ble_eq_true rfl⟩ ⟨Nat.zero_le _, Nat.zero_le _⟩ hl.1 rfl (Nat.le_of_ble_eq_true rfl) dX8_first_32 (fun r17 u18 H locs h19 hP hD hS => ?_)
              obtain rfl := h19
              have hP : va_P D vwCl [(z 9, .inl (k.1 0, 66, .inl (ta_e g))), (z 0, .inr (8, [.ref (z 1), .int (nI ty), .ref (z 2), .ref (z 3), .ref (z 4), .ref (z 5), .int (nI kn), .ref (z 6), .ref (z 7), .ref (z 8), .int (nI no), .int (nI at_), .int (nI so), .int (nI sr), .int (nI va), .ref (z 9)])), (z 2, .inl (k.1 0, 23, .inl (ta_e t))), (z 4, .inl (k.1 0, 66, .inl (ta_e (tg_go t (tg_it t g (kx - 1))))))] H := hP
              have hD : va_D A [(z 9, .inl (k.1 0, 66, .inl (ta_e g))), (z 0, .inr (8, [.ref (z 1), .int (nI ty), .ref (z 2), .ref (z 3), .ref (z 4), .ref (z 5), .int (nI kn), .ref (z 6), .ref (z 7), .ref (z 8), .int (nI no), .int (nI at_), .int (nI so), .int (nI sr), .int (nI va), .ref (z 9)])), (z 2, .inl (k.1 0, 23, .inl (ta_e t))), (z 4, .inl (k.1 0, 66, .inl (ta_e (tg_go t (tg_it t g (kx - 1))))))] := hD
              have hkb := tg_kn_b (tg_it t g (kx - 1))
              have ei : tg_go t (tg_it t g (kx - 1)) = tg_it t g (kx + 1 - 1) := by obtain ⟨j, rfl⟩ : ∃ j, kx = j + 1 := ⟨kx - 1, by omega⟩; rfl
              rw [ei] at hP hD
              refine lv_iload_n hx hb dX8_first_35 rfl (lv_at hl 3 rfl) ?_
              refine ta_cne C (a := tg_kn (tg_it t g (kx - 1))) (b := a) (tgt := 43) (by omega) (by omega) dX8_first_36 (by decide) (fun c20 => ?_) (fun c20 => ?_)
              · have hne := c20
                refine ta_iconst C 4294967295 dX8_first_43 (by decide) ?_
                refine lv_istore_n (lv' := [(2, .int (nI 4294967295)), (3, .int (nI kx)), (0, .ref (z 0)), (1, .int (nI a))]) hx hb dX8_first_44 rfl hl (by decide) rfl (fun ls hl => ?_)
                refine lv_iinc (v := nI (kx + 1)) (lv' := [(3, .int (nI (kx + 1))), (2, .int (nI 4294967295)), (0, .ref (z 0)), (1, .int (nI a))]) hx hb dX8_first_45 hl (k := 1) rfl (ta_inc1 _) (by decide) rfl (fun ls hl => ?_)
                refine lv_goto (tgt := 20) hx hb dX8_first_48 (by decide) ?_
                exact ih_20 (kx + 1) 4294967295 (by omega) (by omega) (Or.inl ⟨rfl, by rw [hfa, show 100 - kx = (100 - (kx + 1)) + 1 by omega, tg_fst_n hne, show kx - 1 + 1 = kx + 1 - 1 by omega]⟩) (by omega) _ _ _ (hP.sub [1, 2, 3, 0] rfl) (hD.sub [1, 2, 3, 0] (by decide) rfl) hS (lv_sub hl [0, 1, 2, 3] rfl)
              · have heq := c20
                refine lv_iload_n hx hb dX8_first_39 rfl (lv_at hl 0 rfl) ?_
                refine lv_goto (tgt := 44) hx hb dX8_first_40 (by decide) ?_
                refine lv_istore_n (lv' := [(2, .int (nI kx)), (3, .int (nI kx)), (0, .ref (z 0)), (1, .int (nI a))]) hx hb dX8_first_44 rfl hl (by decide) rfl (fun ls hl => ?_)
                refine lv_iinc (v := nI (kx + 1)) (lv' := [(3, .int (nI (kx + 1))), (2, .int (nI kx)), (0, .ref (z 0)), (1, .int (nI a))]) hx hb dX8_first_45 hl (k := 1) rfl (ta_inc1 _) (by decide) rfl (fun ls hl => ?_)
                refine lv_goto (tgt := 20) hx hb dX8_first_48 (by decide) ?_
                exact ih_20 (kx + 1) kx (by omega) (by omega) (Or.inr ⟨by omega, by rw [hfa, show 100 - kx = (100 - (kx + 1)) + 1 by omega, tg_fst_y heq]; omega⟩) (by omega) _ _ _ (hP.sub [1, 2, 3, 0] rfl) (hD.sub [1, 2, 3, 0] (by decide) rfl) hS (lv_sub hl [0, 1, 2, 3] rfl)
      exact loop_20 ((100 - 1) + 1) 1 4294967295 (by omega) (by omega) (Or.inl ⟨rfl, rfl⟩) (Nat.lt_succ_self _) _ _ _ (hP.sub [1, 0, 2, 3] rfl) (hD.sub [1, 0, 2, 3] (by decide) rfl) hS (lv_sub hl [0, 1, 2, 3] rfl)
    · exact absurd c5 (by decide)
  · obtain ⟨hi21, rfl⟩ := h0
    have hP : va_P D vwCl [(z 0, .inr (8, [.ref (z 1), .int (nI ty), .ref (z 2), .ref (z 3), .ref (z 4), .ref (z 5), .int (nI kn), .ref (z 6), .ref (z 7), .ref (z 8), .int (nI no), .int (nI at_), .int (nI so), .int (nI sr), .int (nI va), .ref (z 9)])), (z 2, .inl (k.1 0, 23, .inl (ta_e t))), (z 4, .inl (k.1 0, 66, .inl (ta_e g))), (z 9, .inl (k.1 0, 66, .inl (ta_e hd)))] H := hP
    have hD : va_D A [(z 0, .inr (8, [.ref (z 1), .int (nI ty), .ref (z 2), .ref (z 3), .ref (z 4), .ref (z 5), .int (nI kn), .ref (z 6), .ref (z 7), .ref (z 8), .int (nI no), .int (nI at_), .int (nI so), .int (nI sr), .int (nI va), .ref (z 9)])), (z 2, .inl (k.1 0, 23, .inl (ta_e t))), (z 4, .inl (k.1 0, 66, .inl (ta_e g))), (z 9, .inl (k.1 0, 66, .inl (ta_e hd)))] := hD
    refine lv_if_ne (tgt := 12) hx hb dX8_first_6 (by decide) (fun c22 => ?_) (fun c22 => ?_)
    · exact absurd c22 (by decide)
    · refine ta_bipush C 4294967294 dX8_first_9 (by decide) ?_
      have e1 : sp_first t g a = 4294967294 := if_neg (by omega)
      exact ret _ hd dX8_first_11 rfl (by rw [e1]) hP hD hS
