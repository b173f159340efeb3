/-! what the calls answer, of the abstract state -/
def sp_write (L a : Nat) : Nat := if a ≤ 255 then (if L < 160 then L + 1 else 4294967291) else 4294967293
def sp_writeL (L a : Nat) : Nat := if a ≤ 255 ∧ L < 160 then L + 1 else L
def sp_writeT (tx : Nat → Nat) (L a : Nat) : Nat → Nat := if a ≤ 255 ∧ L < 160 then ta_u tx L a else tx
def sp_mud (t g : Nat → Nat) (x : Nat) : Nat := if x < t 0 * t 1 then g (30 + x) else 4294967294
def sp_figure (g : Nat → Nat) (a j w : Nat) : Nat := if a < 2 ∧ j < g (6 + a) then (if w = 0 then g (8 + 8 * a + j) / 10 else if w = 1 then g (8 + 8 * a + j) % 10 else 4294967293) else 4294967294
def sp_army (g : Nat → Nat) (a w : Nat) : Nat := if a < 2 then (if w = 0 then g (6 + a) else if w = 1 then g (24 + a) else if w = 2 then (if g 0 % 2 = a then 1 else 0) else 4294967293) else 4294967294
def sp_as (g : Nat → Nat) (a kd : Nat) : Nat := if a < 2 then (if kd < 6 then (if g (6 + a) = 0 then 4294967292 else if kd = 0 ∨ kd = g (8 + 8 * a) / 10 + 1 ∨ (kd = 1 ∧ g (8 + 8 * a) / 10 < 3) then (if g (8 + 8 * a) / 10 = 2 then 2 else if g (8 + 8 * a) / 10 < 3 then 1 else 0) else 4294967292) else 4294967293) else 4294967294
/-- the days that can be gone back to, as they lie in one row -/
def mo_P (pa : Nat → Nat) (n : Nat) (G : Nat → Nat → Nat) : Prop := ∀ i, i < n → ∀ j, j < 66 → pa (66 * i + j) = G i j
theorem tg_ok_a {t g : Nat → Nat} {a : Nat} (ho : tg_ok t g) (ha : a < 2) : g (6 + a) ≤ 8 ∧ ∀ j, j < g (6 + a) → tg_fig (g (8 + 8 * a + j)) := by
  obtain ⟨-, -, -, -, -, b6, b7, b8, b9⟩ := ho
  rcases (show a = 0 ∨ a = 1 by omega) with rfl | rfl
  · exact ⟨b6, b8⟩
  · exact ⟨b7, b9⟩
def mo_lay (t : Nat → Nat) (i : Nat) : Nat → Nat := fun j => if j = 2 then t 3 else if j = 3 then t 4 else if j = 4 then 4294967295 else if 6 ≤ j ∧ j < 6 + i then t (j - 1) else 0
set_option maxHeartbeats 4000000 in
set_option maxRecDepth 100000 in
theorem c_X8_write (l : Launch) (D : va_G) (k : ta_C) (z : Nat → Nat) (ty : Nat) (kn : Nat) (no : Nat) (at_ : Nat) (so : Nat) (sr : Nat) (va : Nat) (tx : Nat → Nat) (a : Nat) (hty : ty ≤ 160) (wa : a < 4294967296) : ta_Mi (S := Unit) l D k yX8_write cX8_write 2 .int 1 40 [.ref (z 0), .int (nI a)] [(z 0, .inr (8, [.ref (z 1), .int (nI ty), .ref (z 2), .ref (z 3), .ref (z 4), .ref (z 5), .int (nI kn), .ref (z 6), .ref (z 7), .ref (z 8), .int (nI no), .int (nI at_), .int (nI so), .int (nI sr), .int (nI va), .ref (z 9)])), (z 1, .inl (k.1 0, 160, .inl (ta_e tx)))] (fun r _ => r = nI (sp_write ty a)) (fun u => [(z 0, .inr (8, [.ref (z 1), .int (nI (sp_writeL ty a)), .ref (z 2), .ref (z 3), .ref (z 4), .ref (z 5), .int (nI kn), .ref (z 6), .ref (z 7), .ref (z 8), .int (nI no), .int (nI at_), .int (nI so), .int (nI sr), .int (nI va), .ref (z 9)])), (z 1, .inl (k.1 0, 160, .inl (ta_e (sp_writeT tx ty a))))]) := by
  refine ta_enter_i (by decide) (Nat.le_of_ble_eq_true rfl) ?_
  intro p e s m below meth c A ls Q C ret hP hD hS hl
  have C : ta_At p l D k s m ([.ref (z 0), .int (nI a)] : List Value).toArray c RX8 cX8_write 2 A := C
  have hx := C.1.1
  have hb := C.1.2.1
  have hl : lv_has ls 2 [(0, .ref (z 0)), (1, .int (nI a))] := hl
  obtain ⟨H, hH⟩ : ∃ H, H = s.heap := ⟨_, rfl⟩
  obtain ⟨locs, hlocs⟩ : ∃ q : List Loc, q = [] := ⟨_, rfl⟩
  have hP : va_P D vwCl [(z 0, .inr (8, [.ref (z 1), .int (nI ty), .ref (z 2), .ref (z 3), .ref (z 4), .ref (z 5), .int (nI kn), .ref (z 6), .ref (z 7), .ref (z 8), .int (nI no), .int (nI at_), .int (nI so), .int (nI sr), .int (nI va), .ref (z 9)])), (z 1, .inl (k.1 0, 160, .inl (ta_e tx)))] H := by rw [hH]; exact hP
  have hS : va_S A s.heap H locs := by rw [hH, hlocs]; exact hS
  rw [← hlocs]
  suffices hgoal : W p l e ({ frames := 1, cells := 0, slots := 0, locals := 40 }) s m ([.ref (z 0), .int (nI a)] : List Value).toArray below meth c H locs 0 0 Q (F0 m 0 ls []) by rw [hH] at hgoal; exact hgoal
  clear hH hlocs
  refine lv_iload_n hx hb dX8_write_0 rfl (lv_at hl 1 rfl) ?_
  refine ta_iconst C 0 dX8_write_1 (by decide) ?_
  refine ta_sipush C 255 dX8_write_2 (by decide) ?_
  refine ta_callSi (As := [.int (nI a), .int (nI 0), .int (nI 255)]) (rest0 := []) (Wr := [(z 0, .inr (8, [.ref (z 1), .int (nI ty), .ref (z 2), .ref (z 3), .ref (z 4), .ref (z 5), .int (nI kn), .ref (z 6), .ref (z 7), .ref (z 8), .int (nI no), .int (nI at_), .int (nI so), .int (nI sr), .int (nI va), .ref (z 9)])), (z 1, .inl (k.1 0, 160, .inl (ta_e tx)))]) C hP hD hS (c_X8_in_w l D k a 0 255 (by omega) (by omega) (by omega)) [] [0, 1] rfl rfl (by decide) (by decide) (by decide) tw_159 tw_157 tw_5 tw_158 ⟨by decide, by decide, rfl⟩ ⟨Nat.le_of_ble_eq_true rfl, Nat.le_of_ble_eq_true rfl⟩ ⟨Nat.zero_le _, Nat.zero_le _⟩ hl.1 rfl (Nat.le_of_ble_eq_true rfl) dX8_write_5 (fun r1 u2 H locs h3 hP hD hS => ?_)
  rcases h3 with h0 | h0
  · obtain ⟨hi4, rfl⟩ := h0
    have hP : va_P D vwCl [(z 0, .inr (8, [.ref (z 1), .int (nI ty), .ref (z 2), .ref (z 3), .ref (z 4), .ref (z 5), .int (nI kn), .ref (z 6), .ref (z 7), .ref (z 8), .int (nI no), .int (nI at_), .int (nI so), .int (nI sr), .int (nI va), .ref (z 9)])), (z 1, .inl (k.1 0, 160, .inl (ta_e tx)))] H := hP
    have hD : va_D A [(z 0, .inr (8, [.ref (z 1), .int (nI ty), .ref (z 2), .ref (z 3), .ref (z 4), .ref (z 5), .int (nI kn), .ref (z 6), .ref (z 7), .ref (z 8), .int (nI no), .int (nI at_), .int (nI so), .int (nI sr), .int (nI va), .ref (z 9)])), (z 1, .inl (k.1 0, 160, .inl (ta_e tx)))] := hD
    refine lv_if_ne (tgt := 14) hx hb dX8_write_8 (by decide) (fun c5 => ?_) (fun c5 => ?_)
    · refine lv_aload_n hx hb dX8_write_14 rfl (lv_at hl 0 rfl) ?_
      refine ta_get C hP 0 inlX8 rfl rfl 1 (by decide) tw_156 rfl dX8_write_15 ?_
      refine ta_sipush C 160 dX8_write_18 (by decide) ?_
      refine ta_cne C (a := ty) (b := 160) (tgt := 27) (by omega) (by omega) dX8_write_21 (by decide) (fun c6 => ?_) (fun c6 => ?_)
      · refine lv_aload_n hx hb dX8_write_27 rfl (lv_at hl 0 rfl) ?_
        refine ta_get C hP 0 inlX8 rfl rfl 0 (by decide) tw_125 rfl dX8_write_28 ?_
        refine lv_aload_n hx hb dX8_write_31 rfl (lv_at hl 0 rfl) ?_
        refine ta_get C hP 0 inlX8 rfl rfl 1 (by decide) tw_156 rfl dX8_write_32 ?_
        refine lv_iload_n hx hb dX8_write_35 rfl (lv_at hl 1 rfl) ?_
        refine ta_iast C hP hD hS 1 rfl (i := ty) (v := a) (by omega) dX8_write_36 (fun H locs hP hD hS => ?_)
        have hP : va_P D vwCl [(z 0, .inr (8, [.ref (z 1), .int (nI ty), .ref (z 2), .ref (z 3), .ref (z 4), .ref (z 5), .int (nI kn), .ref (z 6), .ref (z 7), .ref (z 8), .int (nI no), .int (nI at_), .int (nI so), .int (nI sr), .int (nI va), .ref (z 9)])), (z 1, .inl (k.1 0, 160, .inl (ta_e (ta_u tx ty a))))] H := hP
        have hD : va_D A [(z 0, .inr (8, [.ref (z 1), .int (nI ty), .ref (z 2), .ref (z 3), .ref (z 4), .ref (z 5), .int (nI kn), .ref (z 6), .ref (z 7), .ref (z 8), .int (nI no), .int (nI at_), .int (nI so), .int (nI sr), .int (nI va), .ref (z 9)])), (z 1, .inl (k.1 0, 160, .inl (ta_e (ta_u tx ty a))))] := hD
        refine lv_aload_n hx hb dX8_write_37 rfl (lv_at hl 0 rfl) ?_
        refine lv_dup hx hb dX8_write_38 rfl ?_
        refine ta_get C hP 0 inlX8 rfl rfl 1 (by decide) tw_156 rfl dX8_write_39 ?_
        refine ta_iconst C 1 dX8_write_42 (by decide) ?_
        refine ta_iadd C (a := ty) (b := 1) dX8_write_43 ?_
        refine ta_put C hP hD hS 0 inlX8 tyX8 tyX8_ok nmX8 rfl rfl 1 (by decide) tw_156 rfl rfl rfl (Nat.le_of_ble_eq_true rfl) dX8_write_44 (fun H locs hP hD hS => ?_)
        have hP : va_P D vwCl [(z 0, .inr (8, [.ref (z 1), .int (nI (ty + 1)), .ref (z 2), .ref (z 3), .ref (z 4), .ref (z 5), .int (nI kn), .ref (z 6), .ref (z 7), .ref (z 8), .int (nI no), .int (nI at_), .int (nI so), .int (nI sr), .int (nI va), .ref (z 9)])), (z 1, .inl (k.1 0, 160, .inl (ta_e (ta_u tx ty a))))] H := hP
        have hD : va_D A [(z 0, .inr (8, [.ref (z 1), .int (nI (ty + 1)), .ref (z 2), .ref (z 3), .ref (z 4), .ref (z 5), .int (nI kn), .ref (z 6), .ref (z 7), .ref (z 8), .int (nI no), .int (nI at_), .int (nI so), .int (nI sr), .int (nI va), .ref (z 9)])), (z 1, .inl (k.1 0, 160, .inl (ta_e (ta_u tx ty a))))] := hD
        refine lv_aload_n hx hb dX8_write_47 rfl (lv_at hl 0 rfl) ?_
        refine ta_get C hP 0 inlX8 rfl rfl 1 (by decide) tw_156 rfl dX8_write_48 ?_
        have e1 : sp_write ty a = ty + 1 := by unfold sp_write; rw [if_pos (by omega), if_pos (by omega)]
        have e2 : sp_writeL ty a = ty + 1 := by unfold sp_writeL; rw [if_pos (by omega)]
        have e3 : sp_writeT tx ty a = ta_u tx ty a := by unfold sp_writeT; rw [if_pos (by omega)]
        rw [e2, e3] at ret
        exact ret _ () dX8_write_51 rfl (by rw [e1]) hP hD hS
      · refine ta_bipush C 4294967291 dX8_write_24 (by decide) ?_
        have e1 : sp_write ty a = 4294967291 := by unfold sp_write; rw [if_pos (by omega), if_neg (by omega)]
        have e2 : sp_writeL ty a = ty := by unfold sp_writeL; rw [if_neg (by omega)]
        have e3 : sp_writeT tx ty a = tx := by unfold sp_writeT; rw [if_neg (by omega)]
        rw [e2, e3] at ret
        exact ret _ () dX8_write_26 rfl (by rw [e1]) hP hD hS
    · exact absurd c5 (by decide)
  · obtain ⟨hi7, rfl⟩ := h0
    have hP : va_P D vwCl [(z 0, .inr (8, [.ref (z 1), .int (nI ty), .ref (z 2), .ref (z 3), .ref (z 4), .ref (z 5), .int (nI kn), .ref (z 6), .ref (z 7), .ref (z 8), .int (nI no), .int (nI at_), .int (nI so), .int (nI sr), .int (nI va), .ref (z 9)])), (z 1, .inl (k.1 0, 160, .inl (ta_e tx)))] H := hP
    have hD : va_D A [(z 0, .inr (8, [.ref (z 1), .int (nI ty), .ref (z 2), .ref (z 3), .ref (z 4), .ref (z 5), .int (nI kn), .ref (z 6), .ref (z 7), .ref (z 8), .int (nI no), .int (nI at_), .int (nI so), .int (nI sr), .int (nI va), .ref (z 9)])), (z 1, .inl (k.1 0, 160, .inl (ta_e tx)))] := hD
    refine lv_if_ne (tgt := 14) hx hb dX8_write_8 (by decide) (fun c8 => ?_) (fun c8 => ?_)
    · exact absurd c8 (by decide)
    · refine ta_bipush C 4294967293 dX8_write_11 (by decide) ?_
      have e1 : sp_write ty a = 4294967293 := by unfold sp_write; rw [if_neg (by omega)]
      have e2 : sp_writeL ty a = ty := by unfold sp_writeL; rw [if_neg (by omega)]
      have e3 : sp_writeT tx ty a = tx := by unfold sp_writeT; rw [if_neg (by omega)]
      rw [e2, e3] at ret
      exact ret _ () dX8_write_13 rfl (by rw [e1]) hP hD hS

set_option maxHeartbeats 4000000 in
set_option maxRecDepth 100000 in
theorem c_X8_erase (l : Launch) (D : va_G) (k : ta_C) (z : Nat → Nat) (ty : Nat) (kn : Nat) (no : Nat) (at_ : Nat) (so : Nat) (sr : Nat) (va : Nat) : ta_Mi (S := Unit) l D k yX8_erase cX8_erase 2 .int 0 0 [.ref (z 0)] [(z 0, .inr (8, [.ref (z 1), .int (nI ty), .ref (z 2), .ref (z 3), .ref (z 4), .ref (z 5), .int (nI kn), .ref (z 6), .ref (z 7), .ref (z 8), .int (nI no), .int (nI at_), .int (nI so), .int (nI sr), .int (nI va), .ref (z 9)]))] (fun r _ => r = nI ty) (fun u => [(z 0, .inr (8, [.ref (z 1), .int (nI 0), .ref (z 2), .ref (z 3), .ref (z 4), .ref (z 5), .int (nI kn), .ref (z 6), .ref (z 7), .ref (z 8), .int (nI no), .int (nI at_), .int (nI so), .int (nI sr), .int (nI va), .ref (z 9)]))]) := by
  refine ta_enter_i (by decide) (Nat.le_of_ble_eq_true rfl) ?_
  intro p e s m below meth c A ls Q C ret hP hD hS hl
  have C : ta_At p l D k s m ([.ref (z 0)] : List Value).toArray c RX8 cX8_erase 2 A := C
  have hx := C.1.1
  have hb := C.1.2.1
  have hl : lv_has ls 2 [(0, .ref (z 0))] := hl
  obtain ⟨H, hH⟩ : ∃ H, H = s.heap := ⟨_, rfl⟩
  obtain ⟨locs, hlocs⟩ : ∃ q : List Loc, q = [] := ⟨_, rfl⟩
  have hP : va_P D vwCl [(z 0, .inr (8, [.ref (z 1), .int (nI ty), .ref (z 2), .ref (z 3), .ref (z 4), .ref (z 5), .int (nI kn), .ref (z 6), .ref (z 7), .ref (z 8), .int (nI no), .int (nI at_), .int (nI so), .int (nI sr), .int (nI va), .ref (z 9)]))] H := by rw [hH]; exact hP
  have hS : va_S A s.heap H locs := by rw [hH, hlocs]; exact hS
  rw [← hlocs]
  suffices hgoal : W p l e ({ frames := 0, cells := 0, slots := 0, locals := 0 }) s m ([.ref (z 0)] : List Value).toArray below meth c H locs 0 0 Q (F0 m 0 ls []) by rw [hH] at hgoal; exact hgoal
  clear hH hlocs
  refine lv_aload_n hx hb dX8_erase_0 rfl (lv_at hl 0 rfl) ?_
  refine ta_get C hP 0 inlX8 rfl rfl 1 (by decide) tw_156 rfl dX8_erase_1 ?_
  refine lv_istore_n (lv' := [(1, .int (nI ty)), (0, .ref (z 0))]) hx hb dX8_erase_4 rfl hl (by decide) rfl (fun ls hl => ?_)
  refine lv_aload_n hx hb dX8_erase_5 rfl (lv_at hl 1 rfl) ?_
  refine ta_iconst C 0 dX8_erase_6 (by decide) ?_
  refine ta_put C hP hD hS 0 inlX8 tyX8 tyX8_ok nmX8 rfl rfl 1 (by decide) tw_156 rfl rfl rfl (Nat.le_of_ble_eq_true rfl) dX8_erase_7 (fun H locs hP hD hS => ?_)
  have hP : va_P D vwCl [(z 0, .inr (8, [.ref (z 1), .int (nI 0), .ref (z 2), .ref (z 3), .ref (z 4), .ref (z 5), .int (nI kn), .ref (z 6), .ref (z 7), .ref (z 8), .int (nI no), .int (nI at_), .int (nI so), .int (nI sr), .int (nI va), .ref (z 9)]))] H := hP
  have hD : va_D A [(z 0, .inr (8, [.ref (z 1), .int (nI 0), .ref (z 2), .ref (z 3), .ref (z 4), .ref (z 5), .int (nI kn), .ref (z 6), .ref (z 7), .ref (z 8), .int (nI no), .int (nI at_), .int (nI so), .int (nI sr), .int (nI va), .ref (z 9)]))] := hD
  refine lv_iload_n hx hb dX8_erase_10 rfl (lv_at hl 0 rfl) ?_
  exact ret (nI ty) () dX8_erase_11 rfl rfl hP hD hS

set_option maxHeartbeats 4000000 in
set_option maxRecDepth 100000 in
theorem c_X8_forgets (l : Launch) (D : va_G) (k : ta_C) (z : Nat → Nat) (ty : Nat) (kn : Nat) (no : Nat) (at_ : Nat) (so : Nat) (sr : Nat) (va : Nat) (t : Nat → Nat) (d : Nat → Nat) (w : Nat) (h : Nat) : ta_Mv (S := Unit) l D k yX8_forgets cX8_forgets 4 0 0 [.ref (z 0), .int (nI w), .int (nI h)] [(z 0, .inr (8, [.ref (z 1), .int (nI ty), .ref (z 2), .ref (z 3), .ref (z 4), .ref (z 5), .int (nI kn), .ref (z 6), .ref (z 7), .ref (z 8), .int (nI no), .int (nI at_), .int (nI so), .int (nI sr), .int (nI va), .ref (z 9)])), (z 2, .inl (k.1 0, 23, .inl (ta_e t))), (z 3, .inl (k.1 0, 23, .inl (ta_e d)))] (fun _ => True) (fun u => [(z 0, .inr (8, [.ref (z 1), .int (nI ty), .ref (z 2), .ref (z 3), .ref (z 4), .ref (z 5), .int (nI kn), .ref (z 6), .ref (z 7), .ref (z 8), .int (nI no), .int (nI at_), .int (nI so), .int (nI sr), .int (nI va), .ref (z 9)])), (z 2, .inl (k.1 0, 23, .inl (ta_e (tg_anew w h)))), (z 3, .inl (k.1 0, 23, .inl (ta_e (tg_anew w h))))]) := by
  refine ta_enter_v (by decide) (Nat.le_of_ble_eq_true rfl) ?_
  intro p e s m below meth c A ls Q C ret hP hD hS hl
  have C : ta_At p l D k s m ([.ref (z 0), .int (nI w), .int (nI h)] : List Value).toArray c RX8 cX8_forgets 4 A := C
  have hx := C.1.1
  have hb := C.1.2.1
  have hl : lv_has ls 4 [(0, .ref (z 0)), (1, .int (nI w)), (2, .int (nI h))] := hl
  obtain ⟨H, hH⟩ : ∃ H, H = s.heap := ⟨_, rfl⟩
  obtain ⟨locs, hlocs⟩ : ∃ q : List Loc, q = [] := ⟨_, rfl⟩
  have hP : va_P D vwCl [(z 0, .inr (8, [.ref (z 1), .int (nI ty), .ref (z 2), .ref (z 3), .ref (z 4), .ref (z 5), .int (nI kn), .ref (z 6), .ref (z 7), .ref (z 8), .int (nI no), .int (nI at_), .int (nI so), .int (nI sr), .int (nI va), .ref (z 9)])), (z 2, .inl (k.1 0, 23, .inl (ta_e t))), (z 3, .inl (k.1 0, 23, .inl (ta_e d)))] H := by rw [hH]; exact hP
  have hS : va_S A s.heap H locs := by rw [hH, hlocs]; exact hS
  rw [← hlocs]
  suffices hgoal : W p l e ({ frames := 0, cells := 0, slots := 0, locals := 0 }) s m ([.ref (z 0), .int (nI w), .int (nI h)] : List Value).toArray below meth c H locs 0 0 Q (F0 m 0 ls []) by rw [hH] at hgoal; exact hgoal
  clear hH hlocs
  refine ta_iconst C 0 dX8_forgets_0 (by decide) ?_
  refine lv_istore_n (lv' := [(3, .int (nI 0)), (0, .ref (z 0)), (1, .int (nI w)), (2, .int (nI h))]) hx hb dX8_forgets_1 rfl hl (by decide) rfl (fun ls hl => ?_)
  have loop_2 : ∀ (N_2 : Nat) (i : Nat) (f2 : Nat → Nat), (i ≤ 23) → (∀ j, j < i → f2 j = 0) → 23 - i < N_2 → ∀ (H : Heap) (locs : List Loc) (ls : Array Slot), va_P D vwCl [(z 0, .inr (8, [.ref (z 1), .int (nI ty), .ref (z 2), .ref (z 3), .ref (z 4), .ref (z 5), .int (nI kn), .ref (z 6), .ref (z 7), .ref (z 8), .int (nI no), .int (nI at_), .int (nI so), .int (nI sr), .int (nI va), .ref (z 9)])), (z 2, .inl (k.1 0, 23, .inl (ta_e t))), (z 3, .inl (k.1 0, 23, .inl (ta_e f2)))] H → va_D A [(z 0, .inr (8, [.ref (z 1), .int (nI ty), .ref (z 2), .ref (z 3), .ref (z 4), .ref (z 5), .int (nI kn), .ref (z 6), .ref (z 7), .ref (z 8), .int (nI no), .int (nI at_), .int (nI so), .int (nI sr), .int (nI va), .ref (z 9)])), (z 2, .inl (k.1 0, 23, .inl (ta_e t))), (z 3, .inl (k.1 0, 23, .inl (ta_e f2)))] → va_S A s.heap H locs → lv_has ls 4 [(3, .int (nI i)), (0, .ref (z 0)), (1, .int (nI w)), (2, .int (nI h))] → W p l e ({ frames := 0, cells := 0, slots := 0, locals := 0 }) s m ([.ref (z 0), .int (nI w), .int (nI h)] : List Value).toArray below meth c H locs 0 0 Q (F0 m 2 ls []) := by
    clear hP hD hS hl
    intro N_2
    induction N_2 with
    | zero =>
      intro i f2 h1 h2 hf_2
      exact absurd hf_2 (Nat.not_lt_zero _)
    | succ N_2 ih_2 =>
      intro i f2 h1 h2 hf_2 H locs ls hP hD hS hl
      refine lv_iload_n hx hb dX8_forgets_2 rfl (lv_at hl 0 rfl) ?_
      refine ta_bipush C 23 dX8_forgets_3 (by decide) ?_
      refine ta_cge C (a := i) (b := 23) (tgt := 21) (by omega) (by omega) dX8_forgets_5 (by decide) (fun c1 => ?_) (fun c1 => ?_)
      · refine lv_aload_n hx hb dX8_forgets_21 rfl (lv_at hl 1 rfl) ?_
        refine ta_get C hP 0 inlX8 rfl rfl 3 (by decide) tw_127 rfl dX8_forgets_22 ?_
        refine ta_iconst C 0 dX8_forgets_25 (by decide) ?_
        refine lv_iload_n hx hb dX8_forgets_26 rfl (lv_at hl 2 rfl) ?_
        refine ta_iast C hP hD hS 2 rfl (i := 0) (v := w) (by omega) dX8_forgets_27 (fun H locs hP hD hS => ?_)
        have hP : va_P D vwCl [(z 0, .inr (8, [.ref (z 1), .int (nI ty), .ref (z 2), .ref (z 3), .ref (z 4), .ref (z 5), .int (nI kn), .ref (z 6), .ref (z 7), .ref (z 8), .int (nI no), .int (nI at_), .int (nI so), .int (nI sr), .int (nI va), .ref (z 9)])), (z 2, .inl (k.1 0, 23, .inl (ta_e t))), (z 3, .inl (k.1 0, 23, .inl (ta_e (ta_u f2 0 w))))] H := hP
        have hD : va_D A [(z 0, .inr (8, [.ref (z 1), .int (nI ty), .ref (z 2), .ref (z 3), .ref (z 4), .ref (z 5), .int (nI kn), .ref (z 6), .ref (z 7), .ref (z 8), .int (nI no), .int (nI at_), .int (nI so), .int (nI sr), .int (nI va), .ref (z 9)])), (z 2, .inl (k.1 0, 23, .inl (ta_e t))), (z 3, .inl (k.1 0, 23, .inl (ta_e (ta_u f2 0 w))))] := hD
        refine lv_aload_n hx hb dX8_forgets_28 rfl (lv_at hl 1 rfl) ?_
        refine ta_get C hP 0 inlX8 rfl rfl 3 (by decide) tw_127 rfl dX8_forgets_29 ?_
        refine ta_iconst C 1 dX8_forgets_32 (by decide) ?_
        refine lv_iload_n hx hb dX8_forgets_33 rfl (lv_at hl 3 rfl) ?_
        refine ta_iast C hP hD hS 2 rfl (i := 1) (v := h) (by omega) dX8_forgets_34 (fun H locs hP hD hS => ?_)
        have hP : va_P D vwCl [(z 0, .inr (8, [.ref (z 1), .int (nI ty), .ref (z 2), .ref (z 3), .ref (z 4), .ref (z 5), .int (nI kn), .ref (z 6), .ref (z 7), .ref (z 8), .int (nI no), .int (nI at_), .int (nI so), .int (nI sr), .int (nI va), .ref (z 9)])), (z 2, .inl (k.1 0, 23, .inl (ta_e t))), (z 3, .inl (k.1 0, 23, .inl (ta_e (ta_u (ta_u f2 0 w) 1 h))))] H := hP
        have hD : va_D A [(z 0, .inr (8, [.ref (z 1), .int (nI ty), .ref (z 2), .ref (z 3), .ref (z 4), .ref (z 5), .int (nI kn), .ref (z 6), .ref (z 7), .ref (z 8), .int (nI no), .int (nI at_), .int (nI so), .int (nI sr), .int (nI va), .ref (z 9)])), (z 2, .inl (k.1 0, 23, .inl (ta_e t))), (z 3, .inl (k.1 0, 23, .inl (ta_e (ta_u (ta_u f2 0 w) 1 h))))] := hD
        refine lv_aload_n hx hb dX8_forgets_35 rfl (lv_at hl 1 rfl) ?_
        refine ta_get C hP 0 inlX8 rfl rfl 3 (by decide) tw_127 rfl dX8_forgets_36 ?_
        refine ta_iconst C 2 dX8_forgets_39 (by decide) ?_
        refine ta_iconst C 4 dX8_forgets_40 (by decide) ?_
        refine ta_iast C hP hD hS 2 rfl (i := 2) (v := 4) (by omega) dX8_forgets_41 (fun H locs hP hD hS => ?_)
        have hP : va_P D vwCl [(z 0, .inr (8, [.ref (z 1), .int (nI ty), .ref (z 2), .ref (z 3), .ref (z 4), .ref (z 5), .int (nI kn), .ref (z 6), .ref (z 7), .ref (z 8), .int (nI no), .int (nI at_), .int (nI so), .int (nI sr), .int (nI va), .ref (z 9)])), (z 2, .inl (k.1 0, 23, .inl (ta_e t))), (z 3, .inl (k.1 0, 23, .inl (ta_e (ta_u (ta_u (ta_u f2 0 w) 1 h) 2 4))))] H := hP
        have hD : va_D A [(z 0, .inr (8, [.ref (z 1), .int (nI ty), .ref (z 2), .ref (z 3), .ref (z 4), .ref (z 5), .int (nI kn), .ref (z 6), .ref (z 7), .ref (z 8), .int (nI no), .int (nI at_), .int (nI so), .int (nI sr), .int (nI va), .ref (z 9)])), (z 2, .inl (k.1 0, 23, .inl (ta_e t))), (z 3, .inl (k.1 0, 23, .inl (ta_e (ta_u (ta_u (ta_u f2 0 w) 1 h) 2 4))))] := hD
        have hdr : ∀ j, j < 23 → (ta_u (ta_u (ta_u f2 0 w) 1 h) 2 4) j = tg_anew w h j := by
          intro j hj
          unfold ta_u tg_anew
          rcases (show j = 0 ∨ j = 1 ∨ j = 2 ∨ 2 < j by omega) with rfl | rfl | rfl | h8
          · rfl
          · rfl
          · rfl
          · rw [if_neg (by omega), if_neg (by omega), if_neg (by omega), if_neg (by omega), if_neg (by omega), if_neg (by omega)]; exact h2 j (by omega)
        have hP : va_P D vwCl [(z 0, .inr (8, [.ref (z 1), .int (nI ty), .ref (z 2), .ref (z 3), .ref (z 4), .ref (z 5), .int (nI kn), .ref (z 6), .ref (z 7), .ref (z 8), .int (nI no), .int (nI at_), .int (nI so), .int (nI sr), .int (nI va), .ref (z 9)])), (z 2, .inl (k.1 0, 23, .inl (ta_e t))), (z 3, .inl (k.1 0, 23, .inl (ta_e (tg_anew w h))))] H := ta_Pc (hP 0 _ rfl) (ta_Pc (hP 1 _ rfl) (ta_Pc (ta_ae hdr (hP 2 _ rfl)) ta_Pn))
        have hD : va_D A [(z 0, .inr (8, [.ref (z 1), .int (nI ty), .ref (z 2), .ref (z 3), .ref (z 4), .ref (z 5), .int (nI kn), .ref (z 6), .ref (z 7), .ref (z 8), .int (nI no), .int (nI at_), .int (nI so), .int (nI sr), .int (nI va), .ref (z 9)])), (z 2, .inl (k.1 0, 23, .inl (ta_e t))), (z 3, .inl (k.1 0, 23, .inl (ta_e (tg_anew w h))))] := ta_De hD rfl
        refine ta_iconst C 0 dX8_forgets_42 (by decide) ?_
        refine lv_istore_n (lv' := [(3, .int (nI 0)), (0, .ref (z 0)), (1, .int (nI w)), (2, .int (nI h))]) hx hb dX8_forgets_43 rfl hl (by decide) rfl (fun ls hl => ?_)
        have loop_44 : ∀ (N_44 : Nat) (i2 : Nat) (f3 : Nat → Nat), (i2 ≤ 23) → (∀ j, j < i2 → f3 j = tg_anew w h j) → 23 - i2 < N_44 → ∀ (H : Heap) (locs : List Loc) (ls : Array Slot), va_P D vwCl [(z 0, .inr (8, [.ref (z 1), .int (nI ty), .ref (z 2), .ref (z 3), .ref (z 4), .ref (z 5), .int (nI kn), .ref (z 6), .ref (z 7), .ref (z 8), .int (nI no), .int (nI at_), .int (nI so), .int (nI sr), .int (nI va), .ref (z 9)])), (z 2, .inl (k.1 0, 23, .inl (ta_e f3))), (z 3, .inl (k.1 0, 23, .inl (ta_e (tg_anew w h))))] H → va_D A [(z 0, .inr (8, [.ref (z 1), .int (nI ty), .ref (z 2), .ref (z 3), .ref (z 4), .ref (z 5), .int (nI kn), .ref (z 6), .ref (z 7), .ref (z 8), .int (nI no), .int (nI at_), .int (nI so), .int (nI sr), .int (nI va), .ref (z 9)])), (z 2, .inl (k.1 0, 23, .inl (ta_e f3))), (z 3, .inl (k.1 0, 23, .inl (ta_e (tg_anew w h))))] → va_S A s.heap H locs → lv_has ls 4 [(3, .int (nI i2)), (0, .ref (z 0))] → W p l e ({ frames := 0, cells := 0, slots := 0, locals := 0 }) s m ([.ref (z 0), .int (nI w), .int (nI h)] : List Value).toArray below meth c H locs 0 0 Q (F0 m 44 ls []) := by
          clear hP hD hS hl
          intro N_44
          induction N_44 with
          | zero =>
            intro i2 f3 h3 h4 hf_44
            exact absurd hf_44 (Nat.not_lt_zero _)
          | succ N_44 ih_44 =>
            intro i2 f3 h3 h4 hf_44 H locs ls hP hD hS hl
            refine lv_iload_n hx hb dX8_forgets_44 rfl (lv_at hl 0 rfl) ?_
            refine ta_bipush C 23 dX8_forgets_45 (by decide) ?_
            refine ta_cge C (a := i2) (b := 23) (tgt := 68) (by omega) (by omega) dX8_forgets_47 (by decide) (fun c2 => ?_) (fun c2 => ?_)
            · exact ret () dX8_forgets_68 trivial (ta_Pc (hP 0 _ rfl) (ta_Pc (ta_ae (fun j hj => h4 j (by omega)) (hP 1 _ rfl)) (ta_Pc (hP 2 _ rfl) ta_Pn))) (ta_De hD rfl) hS
            · refine lv_aload_n hx hb dX8_forgets_50 rfl (lv_at hl 1 rfl) ?_
              refine ta_get C hP 0 inlX8 rfl rfl 2 (by decide) tw_126 rfl dX8_forgets_51 ?_
              refine lv_iload_n hx hb dX8_forgets_54 rfl (lv_at hl 0 rfl) ?_
              refine lv_aload_n hx hb dX8_forgets_55 rfl (lv_at hl 1 rfl) ?_
              refine ta_get C hP 0 inlX8 rfl rfl 3 (by decide) tw_127 rfl dX8_forgets_56 ?_
              refine lv_iload_n hx hb dX8_forgets_59 rfl (lv_at hl 0 rfl) ?_
              refine ta_iald C hP 2 rfl (i := i2) (by omega) dX8_forgets_60 ?_
              refine ta_iast C hP hD hS 1 rfl (i := i2) (v := (tg_anew w h) i2) (by omega) dX8_forgets_61 (fun H locs hP hD hS => ?_)
              have hP : va_P D vwCl [(z 0, .inr (8, [.ref (z 1), .int (nI ty), .ref (z 2), .ref (z 3), .ref (z 4), .ref (z 5), .int (nI kn), .ref (z 6), .ref (z 7), .ref (z 8), .int (nI no), .int (nI at_), .int (nI so), .int (nI sr), .int (nI va), .ref (z 9)])), (z 2, .inl (k.1 0, 23, .inl (ta_e (ta_u f3 i2 ((tg_anew w h) i2))))), (z 3, .inl (k.1 0, 23, .inl (ta_e (tg_anew w h))))] H := hP
              have hD : va_D A [(z 0, .inr (8, [.ref (z 1), .int (nI ty), .ref (z 2), .ref (z 3), .ref (z 4), .ref (z 5), .int (nI kn), .ref (z 6), .ref (z 7), .ref (z 8), .int (nI no), .int (nI at_), .int (nI so), .int (nI sr), .int (nI va), .ref (z 9)])), (z 2, .inl (k.1 0, 23, .inl (ta_e (ta_u f3 i2 ((tg_anew w h) i2))))), (z 3, .inl (k.1 0, 23, .inl (ta_e (tg_anew w h))))] := hD
              refine lv_iinc (v := nI (i2 + 1)) (lv' := [(3, .int (nI (i2 + 1))), (0, .ref (z 0))]) hx hb dX8_forgets_62 hl (k := 0) rfl (ta_inc1 _) (by decide) rfl (fun ls hl => ?_)
              refine lv_goto (tgt := 44) hx hb dX8_forgets_65 (by decide) ?_
              exact ih_44 (i2 + 1) (ta_u f3 i2 (tg_anew w h i2)) (by omega) (ta_fill h4) (by omega) _ _ _ hP hD hS (lv_sub hl [0, 1] rfl)
        exact loop_44 ((23 - 0) + 1) 0 t (by omega) (fun j hj => absurd hj (Nat.not_lt_zero j)) (Nat.lt_succ_self _) _ _ _ hP hD hS (lv_sub hl [0, 1] rfl)
      · refine lv_aload_n hx hb dX8_forgets_8 rfl (lv_at hl 1 rfl) ?_
        refine ta_get C hP 0 inlX8 rfl rfl 3 (by decide) tw_127 rfl dX8_forgets_9 ?_
        refine lv_iload_n hx hb dX8_forgets_12 rfl (lv_at hl 0 rfl) ?_
        refine ta_iconst C 0 dX8_forgets_13 (by decide) ?_
        refine ta_iast C hP hD hS 2 rfl (i := i) (v := 0) (by omega) dX8_forgets_14 (fun H locs hP hD hS => ?_)
        have hP : va_P D vwCl [(z 0, .inr (8, [.ref (z 1), .int (nI ty), .ref (z 2), .ref (z 3), .ref (z 4), .ref (z 5), .int (nI kn), .ref (z 6), .ref (z 7), .ref (z 8), .int (nI no), .int (nI at_), .int (nI so), .int (nI sr), .int (nI va), .ref (z 9)])), (z 2, .inl (k.1 0, 23, .inl (ta_e t))), (z 3, .inl (k.1 0, 23, .inl (ta_e (ta_u f2 i 0))))] H := hP
        have hD : va_D A [(z 0, .inr (8, [.ref (z 1), .int (nI ty), .ref (z 2), .ref (z 3), .ref (z 4), .ref (z 5), .int (nI kn), .ref (z 6), .ref (z 7), .ref (z 8), .int (nI no), .int (nI at_), .int (nI so), .int (nI sr), .int (nI va), .ref (z 9)])), (z 2, .inl (k.1 0, 23, .inl (ta_e t))), (z 3, .inl (k.1 0, 23, .inl (ta_e (ta_u f2 i 0))))] := hD
        refine lv_iinc (v := nI (i + 1)) (lv' := [(3, .int (nI (i + 1))), (0, .ref (z 0)), (1, .int (nI w)), (2, .int (nI h))]) hx hb dX8_forgets_15 hl (k := 0) rfl (ta_inc1 _) (by decide) rfl (fun ls hl => ?_)
        refine lv_goto (tgt := 2) hx hb dX8_forgets_18 (by decide) ?_
        exact ih_2 (i + 1) (ta_u f2 i 0) (by omega) (ta_fill (h := fun _ => 0) h2) (by omega) _ _ _ hP hD hS (lv_sub hl [0, 1, 2, 3] rfl)
  exact loop_2 ((23 - 0) + 1) 0 d (by omega) (fun j hj => absurd hj (Nat.not_lt_zero j)) (Nat.lt_succ_self _) _ _ _ hP hD hS (lv_sub hl [0, 1, 2, 3] rfl)

set_option maxHeartbeats 4000000 in
set_option maxRecDepth 100000 in
theorem c_X8_lays (l : Launch) (D : va_G) (k : ta_C) (z : Nat → Nat) (ty : Nat) (kn : Nat) (no : Nat) (at_ : Nat) (so : Nat) (sr : Nat) (va : Nat) (t : Nat → Nat) (g : Nat → Nat) (kp : Nat → Nat) : ta_Mv (S := Unit) l D k yX8_lays cX8_lays 2 0 0 [.ref (z 0)] [(z 0, .inr (8, [.ref (z 1), .int (nI ty), .ref (z 2), .ref (z 3), .ref (z 4), .ref (z 5), .int (nI kn), .ref (z 6), .ref (z 7), .ref (z 8), .int (nI no), .int (nI at_), .int (nI so), .int (nI sr), .int (nI va), .ref (z 9)])), (z 2, .inl (k.1 0, 23, .inl (ta_e t))), (z 4, .inl (k.1 0, 66, .inl (ta_e g))), (z 7, .inl (k.1 1, 2, .inl (ta_e kp)))] (fun _ => True) (fun u => [(z 0, .inr (8, [.ref (z 1), .int (nI ty), .ref (z 2), .ref (z 3), .ref (z 4), .ref (z 5), .int (nI 0), .ref (z 6), .ref (z 7), .ref (z 8), .int (nI 0), .int (nI at_), .int (nI so), .int (nI sr), .int (nI va), .ref (z 9)])), (z 2, .inl (k.1 0, 23, .inl (ta_e t))), (z 4, .inl (k.1 0, 66, .inl (ta_e (tg_lay t)))), (z 7, .inl (k.1 1, 2, .inl (ta_e (fun _ => 0))))]) := by
  refine ta_enter_v (by decide) (Nat.le_of_ble_eq_true rfl) ?_
  intro p e s m below meth c A ls Q C ret hP hD hS hl
  have C : ta_At p l D k s m ([.ref (z 0)] : List Value).toArray c RX8 cX8_lays 2 A := C
  have hx := C.1.1
  have hb := C.1.2.1
  have hl : lv_has ls 2 [(0, .ref (z 0))] := hl
  obtain ⟨H, hH⟩ : ∃ H, H = s.heap := ⟨_, rfl⟩
  obtain ⟨locs, hlocs⟩ : ∃ q : List Loc, q = [] := ⟨_, rfl⟩
  have hP : va_P D vwCl [(z 0, .inr (8, [.ref (z 1), .int (nI ty), .ref (z 2), .ref (z 3), .ref (z 4), .ref (z 5), .int (nI kn), .ref (z 6), .ref (z 7), .ref (z 8), .int (nI no), .int (nI at_), .int (nI so), .int (nI sr), .int (nI va), .ref (z 9)])), (z 2, .inl (k.1 0, 23, .inl (ta_e t))), (z 4, .inl (k.1 0, 66, .inl (ta_e g))), (z 7, .inl (k.1 1, 2, .inl (ta_e kp)))] H := by rw [hH]; exact hP
  have hS : va_S A s.heap H locs := by rw [hH, hlocs]; exact hS
  rw [← hlocs]
  suffices hgoal : W p l e ({ frames := 0, cells := 0, slots := 0, locals := 0 }) s m ([.ref (z 0)] : List Value).toArray below meth c H locs 0 0 Q (F0 m 0 ls []) by rw [hH] at hgoal; exact hgoal
  clear hH hlocs
  refine ta_iconst C 0 dX8_lays_0 (by decide) ?_
  refine lv_istore_n (lv' := [(1, .int (nI 0)), (0, .ref (z 0))]) hx hb dX8_lays_1 rfl hl (by decide) rfl (fun ls hl => ?_)
  have loop_2 : ∀ (N_2 : Nat) (i : Nat) (f2 : Nat → Nat), (i ≤ 66) → (∀ j, j < i → f2 j = 0) → 66 - i < N_2 → ∀ (H : Heap) (locs : List Loc) (ls : Array Slot), va_P D vwCl [(z 0, .inr (8, [.ref (z 1), .int (nI ty), .ref (z 2), .ref (z 3), .ref (z 4), .ref (z 5), .int (nI kn), .ref (z 6), .ref (z 7), .ref (z 8), .int (nI no), .int (nI at_), .int (nI so), .int (nI sr), .int (nI va), .ref (z 9)])), (z 2, .inl (k.1 0, 23, .inl (ta_e t))), (z 4, .inl (k.1 0, 66, .inl (ta_e f2))), (z 7, .inl (k.1 1, 2, .inl (ta_e kp)))] H → va_D A [(z 0, .inr (8, [.ref (z 1), .int (nI ty), .ref (z 2), .ref (z 3), .ref (z 4), .ref (z 5), .int (nI kn), .ref (z 6), .ref (z 7), .ref (z 8), .int (nI no), .int (nI at_), .int (nI so), .int (nI sr), .int (nI va), .ref (z 9)])), (z 2, .inl (k.1 0, 23, .inl (ta_e t))), (z 4, .inl (k.1 0, 66, .inl (ta_e f2))), (z 7, .inl (k.1 1, 2, .inl (ta_e kp)))] → va_S A s.heap H locs → lv_has ls 2 [(1, .int (nI i)), (0, .ref (z 0))] → W p l e ({ frames := 0, cells := 0, slots := 0, locals := 0 }) s m ([.ref (z 0)] : List Value).toArray below meth c H locs 0 0 Q (F0 m 2 ls []) := by
    clear hP hD hS hl
    intro N_2
    induction N_2 with
    | zero =>
      intro i f2 h1 h2 hf_2
      exact absurd hf_2 (Nat.not_lt_zero _)
    | succ N_2 ih_2 =>
      intro i f2 h1 h2 hf_2 H locs ls hP hD hS hl
      refine lv_iload_n hx hb dX8_lays_2 rfl (lv_at hl 0 rfl) ?_
      refine ta_bipush C 66 dX8_lays_3 (by decide) ?_
      refine ta_cge C (a := i) (b := 66) (tgt := 21) (by omega) (by omega) dX8_lays_5 (by decide) (fun c1 => ?_) (fun c1 => ?_)
      · obtain rfl : i = 66 := by omega
        refine lv_aload_n hx hb dX8_lays_21 rfl (lv_at hl 1 rfl) ?_
        refine ta_get C hP 0 inlX8 rfl rfl 4 (by decide) tw_128 rfl dX8_lays_22 ?_
        refine ta_iconst C 2 dX8_lays_25 (by decide) ?_
        refine lv_aload_n hx hb dX8_lays_26 rfl (lv_at hl 1 rfl) ?_
        refine ta_get C hP 0 inlX8 rfl rfl 2 (by decide) tw_126 rfl dX8_lays_27 ?_
        refine ta_iconst C 3 dX8_lays_30 (by decide) ?_
        refine ta_iald C hP 1 rfl (i := 3) (by omega) dX8_lays_31 ?_
        refine ta_iast C hP hD hS 2 rfl (i := 2) (v := t 3) (by omega) dX8_lays_32 (fun H locs hP hD hS => ?_)
        have hP : va_P D vwCl [(z 0, .inr (8, [.ref (z 1), .int (nI ty), .ref (z 2), .ref (z 3), .ref (z 4), .ref (z 5), .int (nI kn), .ref (z 6), .ref (z 7), .ref (z 8), .int (nI no), .int (nI at_), .int (nI so), .int (nI sr), .int (nI va), .ref (z 9)])), (z 2, .inl (k.1 0, 23, .inl (ta_e t))), (z 4, .inl (k.1 0, 66, .inl (ta_e (ta_u f2 2 (t 3))))), (z 7, .inl (k.1 1, 2, .inl (ta_e kp)))] H := hP
        have hD : va_D A [(z 0, .inr (8, [.ref (z 1), .int (nI ty), .ref (z 2), .ref (z 3), .ref (z 4), .ref (z 5), .int (nI kn), .ref (z 6), .ref (z 7), .ref (z 8), .int (nI no), .int (nI at_), .int (nI so), .int (nI sr), .int (nI va), .ref (z 9)])), (z 2, .inl (k.1 0, 23, .inl (ta_e t))), (z 4, .inl (k.1 0, 66, .inl (ta_e (ta_u f2 2 (t 3))))), (z 7, .inl (k.1 1, 2, .inl (ta_e kp)))] := hD
        refine lv_aload_n hx hb dX8_lays_33 rfl (lv_at hl 1 rfl) ?_
        refine ta_get C hP 0 inlX8 rfl rfl 4 (by decide) tw_128 rfl dX8_lays_34 ?_
        refine ta_iconst C 3 dX8_lays_37 (by decide) ?_
        refine lv_aload_n hx hb dX8_lays_38 rfl (lv_at hl 1 rfl) ?_
        refine ta_get C hP 0 inlX8 rfl rfl 2 (by decide) tw_126 rfl dX8_lays_39 ?_
        refine ta_iconst C 4 dX8_lays_42 (by decide) ?_
        refine ta_iald C hP 1 rfl (i := 4) (by omega) dX8_lays_43 ?_
        refine ta_iast C hP hD hS 2 rfl (i := 3) (v := t 4) (by omega) dX8_lays_44 (fun H locs hP hD hS => ?_)
        have hP : va_P D vwCl [(z 0, .inr (8, [.ref (z 1), .int (nI ty), .ref (z 2), .ref (z 3), .ref (z 4), .ref (z 5), .int (nI kn), .ref (z 6), .ref (z 7), .ref (z 8), .int (nI no), .int (nI at_), .int (nI so), .int (nI sr), .int (nI va), .ref (z 9)])), (z 2, .inl (k.1 0, 23, .inl (ta_e t))), (z 4, .inl (k.1 0, 66, .inl (ta_e (ta_u (ta_u f2 2 (t 3)) 3 (t 4))))), (z 7, .inl (k.1 1, 2, .inl (ta_e kp)))] H := hP
        have hD : va_D A [(z 0, .inr (8, [.ref (z 1), .int (nI ty), .ref (z 2), .ref (z 3), .ref (z 4), .ref (z 5), .int (nI kn), .ref (z 6), .ref (z 7), .ref (z 8), .int (nI no), .int (nI at_), .int (nI so), .int (nI sr), .int (nI va), .ref (z 9)])), (z 2, .inl (k.1 0, 23, .inl (ta_e t))), (z 4, .inl (k.1 0, 66, .inl (ta_e (ta_u (ta_u f2 2 (t 3)) 3 (t 4))))), (z 7, .inl (k.1 1, 2, .inl (ta_e kp)))] := hD
        refine lv_aload_n hx hb dX8_lays_45 rfl (lv_at hl 1 rfl) ?_
        refine ta_get C hP 0 inlX8 rfl rfl 4 (by decide) tw_128 rfl dX8_lays_46 ?_
        refine ta_iconst C 4 dX8_lays_49 (by decide) ?_
        refine ta_iconst C 4294967295 dX8_lays_50 (by decide) ?_
        refine ta_iast C hP hD hS 2 rfl (i := 4) (v := 4294967295) (by omega) dX8_lays_51 (fun H locs hP hD hS => ?_)
        have hP : va_P D vwCl [(z 0, .inr (8, [.ref (z 1), .int (nI ty), .ref (z 2), .ref (z 3), .ref (z 4), .ref (z 5), .int (nI kn), .ref (z 6), .ref (z 7), .ref (z 8), .int (nI no), .int (nI at_), .int (nI so), .int (nI sr), .int (nI va), .ref (z 9)])), (z 2, .inl (k.1 0, 23, .inl (ta_e t))), (z 4, .inl (k.1 0, 66, .inl (ta_e (ta_u (ta_u (ta_u f2 2 (t 3)) 3 (t 4)) 4 4294967295)))), (z 7, .inl (k.1 1, 2, .inl (ta_e kp)))] H := hP
        have hD : va_D A [(z 0, .inr (8, [.ref (z 1), .int (nI ty), .ref (z 2), .ref (z 3), .ref (z 4), .ref (z 5), .int (nI kn), .ref (z 6), .ref (z 7), .ref (z 8), .int (nI no), .int (nI at_), .int (nI so), .int (nI sr), .int (nI va), .ref (z 9)])), (z 2, .inl (k.1 0, 23, .inl (ta_e t))), (z 4, .inl (k.1 0, 66, .inl (ta_e (ta_u (ta_u (ta_u f2 2 (t 3)) 3 (t 4)) 4 4294967295)))), (z 7, .inl (k.1 1, 2, .inl (ta_e kp)))] := hD
        have hb0 : ∀ j, j < 66 → (ta_u (ta_u (ta_u f2 2 (t 3)) 3 (t 4)) 4 4294967295) j = mo_lay t 0 j := by
          intro j hj
          unfold mo_lay ta_u
          rcases (show j = 2 ∨ j = 3 ∨ j = 4 ∨ (j ≠ 2 ∧ j ≠ 3 ∧ j ≠ 4) by omega) with rfl | rfl | rfl | h8
          · rfl
          · rfl
          · rfl
          · rw [if_neg (by omega), if_neg (by omega), if_neg (by omega), if_neg (by omega), if_neg (by omega), if_neg (by omega), if_neg (by omega)]; exact h2 j hj
        refine ta_iconst C 0 dX8_lays_52 (by decide) ?_
        refine lv_istore_n (lv' := [(1, .int (nI 0)), (0, .ref (z 0))]) hx hb dX8_lays_53 rfl hl (by decide) rfl (fun ls hl => ?_)
        have loop_54 : ∀ (N_54 : Nat) (i2 : Nat) (f3 : Nat → Nat), (i2 ≤ 18) → (∀ j, j < 66 → f3 j = mo_lay t i2 j) → 18 - i2 < N_54 → ∀ (H : Heap) (locs : List Loc) (ls : Array Slot), va_P D vwCl [(z 0, .inr (8, [.ref (z 1), .int (nI ty), .ref (z 2), .ref (z 3), .ref (z 4), .ref (z 5), .int (nI kn), .ref (z 6), .ref (z 7), .ref (z 8), .int (nI no), .int (nI at_), .int (nI so), .int (nI sr), .int (nI va), .ref (z 9)])), (z 2, .inl (k.1 0, 23, .inl (ta_e t))), (z 4, .inl (k.1 0, 66, .inl (ta_e f3))), (z 7, .inl (k.1 1, 2, .inl (ta_e kp)))] H → va_D A [(z 0, .inr (8, [.ref (z 1), .int (nI ty), .ref (z 2), .ref (z 3), .ref (z 4), .ref (z 5), .int (nI kn), .ref (z 6), .ref (z 7), .ref (z 8), .int (nI no), .int (nI at_), .int (nI so), .int (nI sr), .int (nI va), .ref (z 9)])), (z 2, .inl (k.1 0, 23, .inl (ta_e t))), (z 4, .inl (k.1 0, 66, .inl (ta_e f3))), (z 7, .inl (k.1 1, 2, .inl (ta_e kp)))] → va_S A s.heap H locs → lv_has ls 2 [(1, .int (nI i2)), (0, .ref (z 0))] → W p l e ({ frames := 0, cells := 0, slots := 0, locals := 0 }) s m ([.ref (z 0)] : List Value).toArray below meth c H locs 0 0 Q (F0 m 54 ls []) := by
          clear hP hD hS hl
          intro N_54
          induction N_54 with
          | zero =>
            intro i2 f3 h3 h4 hf_54
            exact absurd hf_54 (Nat.not_lt_zero _)
          | succ N_54 ih_54 =>
            intro i2 f3 h3 h4 hf_54 H locs ls hP hD hS hl
            refine lv_iload_n hx hb dX8_lays_54 rfl (lv_at hl 0 rfl) ?_
            refine ta_bipush C 18 dX8_lays_55 (by decide) ?_
            refine ta_cge C (a := i2) (b := 18) (tgt := 83) (by omega) (by omega) dX8_lays_57 (by decide) (fun c2 => ?_) (fun c2 => ?_)
            · refine lv_aload_n hx hb dX8_lays_83 rfl (lv_at hl 1 rfl) ?_
              refine ta_iconst C 0 dX8_lays_84 (by decide) ?_
              refine ta_put C hP hD hS 0 inlX8 tyX8 tyX8_ok nmX8 rfl rfl 6 (by decide) tw_142 rfl rfl rfl (Nat.le_of_ble_eq_true rfl) dX8_lays_85 (fun H locs hP hD hS => ?_)
              have hP : va_P D vwCl [(z 0, .inr (8, [.ref (z 1), .int (nI ty), .ref (z 2), .ref (z 3), .ref (z 4), .ref (z 5), .int (nI 0), .ref (z 6), .ref (z 7), .ref (z 8), .int (nI no), .int (nI at_), .int (nI so), .int (nI sr), .int (nI va), .ref (z 9)])), (z 2, .inl (k.1 0, 23, .inl (ta_e t))), (z 4, .inl (k.1 0, 66, .inl (ta_e f3))), (z 7, .inl (k.1 1, 2, .inl (ta_e kp)))] H := hP
              have hD : va_D A [(z 0, .inr (8, [.ref (z 1), .int (nI ty), .ref (z 2), .ref (z 3), .ref (z 4), .ref (z 5), .int (nI 0), .ref (z 6), .ref (z 7), .ref (z 8), .int (nI no), .int (nI at_), .int (nI so), .int (nI sr), .int (nI va), .ref (z 9)])), (z 2, .inl (k.1 0, 23, .inl (ta_e t))), (z 4, .inl (k.1 0, 66, .inl (ta_e f3))), (z 7, .inl (k.1 1, 2, .inl (ta_e kp)))] := hD
              refine lv_aload_n hx hb dX8_lays_88 rfl (lv_at hl 1 rfl) ?_
              refine ta_iconst C 0 dX8_lays_89 (by decide) ?_
              refine ta_put C hP hD hS 0 inlX8 tyX8 tyX8_ok nmX8 rfl rfl 10 (by decide) tw_143 rfl rfl rfl (Nat.le_of_ble_eq_true rfl) dX8_lays_90 (fun H locs hP hD hS => ?_)
              have hP : va_P D vwCl [(z 0, .inr (8, [.ref (z 1), .int (nI ty), .ref (z 2), .ref (z 3), .ref (z 4), .ref (z 5), .int (nI 0), .ref (z 6), .ref (z 7), .ref (z 8), .int (nI 0), .int (nI at_), .int (nI so), .int (nI sr), .int (nI va), .ref (z 9)])), (z 2, .inl (k.1 0, 23, .inl (ta_e t))), (z 4, .inl (k.1 0, 66, .inl (ta_e f3))), (z 7, .inl (k.1 1, 2, .inl (ta_e kp)))] H := hP
              have hD : va_D A [(z 0, .inr (8, [.ref (z 1), .int (nI ty), .ref (z 2), .ref (z 3), .ref (z 4), .ref (z 5), .int (nI 0), .ref (z 6), .ref (z 7), .ref (z 8), .int (nI 0), .int (nI at_), .int (nI so), .int (nI sr), .int (nI va), .ref (z 9)])), (z 2, .inl (k.1 0, 23, .inl (ta_e t))), (z 4, .inl (k.1 0, 66, .inl (ta_e f3))), (z 7, .inl (k.1 1, 2, .inl (ta_e kp)))] := hD
              refine lv_aload_n hx hb dX8_lays_93 rfl (lv_at hl 1 rfl) ?_
              refine ta_get C hP 0 inlX8 rfl rfl 8 (by decide) tw_131 rfl dX8_lays_94 ?_
              refine ta_iconst C 0 dX8_lays_97 (by decide) ?_
              refine ta_iconst C 0 dX8_lays_98 (by decide) ?_
              refine ta_zast C hP hD hS 3 rfl (i := 0) (v := 0) (by omega) (by decide) dX8_lays_99 (fun H locs hP hD hS => ?_)
              have hP : va_P D vwCl [(z 0, .inr (8, [.ref (z 1), .int (nI ty), .ref (z 2), .ref (z 3), .ref (z 4), .ref (z 5), .int (nI 0), .ref (z 6), .ref (z 7), .ref (z 8), .int (nI 0), .int (nI at_), .int (nI so), .int (nI sr), .int (nI va), .ref (z 9)])), (z 2, .inl (k.1 0, 23, .inl (ta_e t))), (z 4, .inl (k.1 0, 66, .inl (ta_e f3))), (z 7, .inl (k.1 1, 2, .inl (ta_e (ta_u kp 0 0))))] H := hP
              have hD : va_D A [(z 0, .inr (8, [.ref (z 1), .int (nI ty), .ref (z 2), .ref (z 3), .ref (z 4), .ref (z 5), .int (nI 0), .ref (z 6), .ref (z 7), .ref (z 8), .int (nI 0), .int (nI at_), .int (nI so), .int (nI sr), .int (nI va), .ref (z 9)])), (z 2, .inl (k.1 0, 23, .inl (ta_e t))), (z 4, .inl (k.1 0, 66, .inl (ta_e f3))), (z 7, .inl (k.1 1, 2, .inl (ta_e (ta_u kp 0 0))))] := hD
              refine lv_aload_n hx hb dX8_lays_100 rfl (lv_at hl 1 rfl) ?_
              refine ta_get C hP 0 inlX8 rfl rfl 8 (by decide) tw_131 rfl dX8_lays_101 ?_
              refine ta_iconst C 1 dX8_lays_104 (by decide) ?_
              refine ta_iconst C 0 dX8_lays_105 (by decide) ?_
              refine ta_zast C hP hD hS 3 rfl (i := 1) (v := 0) (by omega) (by decide) dX8_lays_106 (fun H locs hP hD hS => ?_)
              have hP : va_P D vwCl [(z 0, .inr (8, [.ref (z 1), .int (nI ty), .ref (z 2), .ref (z 3), .ref (z 4), .ref (z 5), .int (nI 0), .ref (z 6), .ref (z 7), .ref (z 8), .int (nI 0), .int (nI at_), .int (nI so), .int (nI sr), .int (nI va), .ref (z 9)])), (z 2, .inl (k.1 0, 23, .inl (ta_e t))), (z 4, .inl (k.1 0, 66, .inl (ta_e f3))), (z 7, .inl (k.1 1, 2, .inl (ta_e (ta_u (ta_u kp 0 0) 1 0))))] H := hP
              have hD : va_D A [(z 0, .inr (8, [.ref (z 1), .int (nI ty), .ref (z 2), .ref (z 3), .ref (z 4), .ref (z 5), .int (nI 0), .ref (z 6), .ref (z 7), .ref (z 8), .int (nI 0), .int (nI at_), .int (nI so), .int (nI sr), .int (nI va), .ref (z 9)])), (z 2, .inl (k.1 0, 23, .inl (ta_e t))), (z 4, .inl (k.1 0, 66, .inl (ta_e f3))), (z 7, .inl (k.1 1, 2, .inl (ta_e (ta_u (ta_u kp 0 0) 1 0))))] := hD
              obtain rfl : i2 = 18 := by omega
              have hk2 : ∀ j, j < 2 → (ta_u (ta_u kp 0 0) 1 0) j = (fun _ => 0) j := by
                intro j hj
                rcases (show j = 0 ∨ j = 1 by omega) with rfl | rfl <;> rfl
              exact ret () dX8_lays_107 trivial (ta_Pc (hP 0 _ rfl) (ta_Pc (hP 1 _ rfl) (ta_Pc (ta_ae (fun j hj => h4 j hj) (hP 2 _ rfl)) (ta_Pc (ta_ae hk2 (hP 3 _ rfl)) ta_Pn)))) (ta_De hD rfl) hS
            · refine lv_aload_n hx hb dX8_lays_60 rfl (lv_at hl 1 rfl) ?_
              refine ta_get C hP 0 inlX8 rfl rfl 4 (by decide) tw_128 rfl dX8_lays_61 ?_
              refine ta_bipush C 6 dX8_lays_64 (by decide) ?_
              refine lv_iload_n hx hb dX8_lays_66 rfl (lv_at hl 0 rfl) ?_
              refine ta_iadd C (a := 6) (b := i2) dX8_lays_67 ?_
              refine lv_aload_n hx hb dX8_lays_68 rfl (lv_at hl 1 rfl) ?_
              refine ta_get C hP 0 inlX8 rfl rfl 2 (by decide) tw_126 rfl dX8_lays_69 ?_
              refine ta_iconst C 5 dX8_lays_72 (by decide) ?_
              refine lv_iload_n hx hb dX8_lays_73 rfl (lv_at hl 0 rfl) ?_
              refine ta_iadd C (a := 5) (b := i2) dX8_lays_74 ?_
              refine ta_iald C hP 1 rfl (i := 5 + i2) (by omega) dX8_lays_75 ?_
              refine ta_iast C hP hD hS 2 rfl (i := 6 + i2) (v := t (5 + i2)) (by omega) dX8_lays_76 (fun H locs hP hD hS => ?_)
              have hP : va_P D vwCl [(z 0, .inr (8, [.ref (z 1), .int (nI ty), .ref (z 2), .ref (z 3), .ref (z 4), .ref (z 5), .int (nI kn), .ref (z 6), .ref (z 7), .ref (z 8), .int (nI no), .int (nI at_), .int (nI so), .int (nI sr), .int (nI va), .ref (z 9)])), (z 2, .inl (k.1 0, 23, .inl (ta_e t))), (z 4, .inl (k.1 0, 66, .inl (ta_e (ta_u f3 (6 + i2) (t (5 + i2)))))), (z 7, .inl (k.1 1, 2, .inl (ta_e kp)))] H := hP
              have hD : va_D A [(z 0, .inr (8, [.ref (z 1), .int (nI ty), .ref (z 2), .ref (z 3), .ref (z 4), .ref (z 5), .int (nI kn), .ref (z 6), .ref (z 7), .ref (z 8), .int (nI no), .int (nI at_), .int (nI so), .int (nI sr), .int (nI va), .ref (z 9)])), (z 2, .inl (k.1 0, 23, .inl (ta_e t))), (z 4, .inl (k.1 0, 66, .inl (ta_e (ta_u f3 (6 + i2) (t (5 + i2)))))), (z 7, .inl (k.1 1, 2, .inl (ta_e kp)))] := hD
              refine lv_iinc (v := nI (i2 + 1)) (lv' := [(1, .int (nI (i2 + 1))), (0, .ref (z 0))]) hx hb dX8_lays_77 hl (k := 0) rfl (ta_inc1 _) (by decide) rfl (fun ls hl => ?_)
              refine lv_goto (tgt := 54) hx hb dX8_lays_80 (by decide) ?_
              have h4n : ∀ j, j < 66 → ta_u f3 (6 + i2) (t (5 + i2)) j = mo_lay t (i2 + 1) j := by
                intro j hj
                by_cases e9 : j = 6 + i2
                · rw [e9, ta_us]
                  unfold mo_lay
                  rw [if_neg (by omega), if_neg (by omega), if_neg (by omega), if_pos (by omega)]
                  congr 1
                  omega
                · rw [ta_un e9, h4 j hj]
                  unfold mo_lay
                  split
                  · rfl
                  split
                  · rfl
                  split
                  · rfl
                  by_cases e8 : 6 ≤ j ∧ j < 6 + i2
                  · rw [if_pos e8, if_pos (by omega)]
                  · rw [if_neg e8, if_neg (by omega)]
              exact ih_54 (i2 + 1) (ta_u f3 (6 + i2) (t (5 + i2))) (by omega) h4n (by omega) _ _ _ hP hD hS (lv_sub hl [0, 1] rfl)
        exact loop_54 ((18 - 0) + 1) 0 (ta_u (ta_u (ta_u f2 2 (t 3)) 3 (t 4)) 4 4294967295) (by omega) hb0 (Nat.lt_succ_self _) _ _ _ hP hD hS (lv_sub hl [0, 1] rfl)
      · refine lv_aload_n hx hb dX8_lays_8 rfl (lv_at hl 1 rfl) ?_
        refine ta_get C hP 0 inlX8 rfl rfl 4 (by decide) tw_128 rfl dX8_lays_9 ?_
        refine lv_iload_n hx hb dX8_lays_12 rfl (lv_at hl 0 rfl) ?_
        refine ta_iconst C 0 dX8_lays_13 (by decide) ?_
        refine ta_iast C hP hD hS 2 rfl (i := i) (v := 0) (by omega) dX8_lays_14 (fun H locs hP hD hS => ?_)
        have hP : va_P D vwCl [(z 0, .inr (8, [.ref (z 1), .int (nI ty), .ref (z 2), .ref (z 3), .ref (z 4), .ref (z 5), .int (nI kn), .ref (z 6), .ref (z 7), .ref (z 8), .int (nI no), .int (nI at_), .int (nI so), .int (nI sr), .int (nI va), .ref (z 9)])), (z 2, .inl (k.1 0, 23, .inl (ta_e t))), (z 4, .inl (k.1 0, 66, .inl (ta_e (ta_u f2 i 0)))), (z 7, .inl (k.1 1, 2, .inl (ta_e kp)))] H := hP
        have hD : va_D A [(z 0, .inr (8, [.ref (z 1), .int (nI ty), .ref (z 2), .ref (z 3), .ref (z 4), .ref (z 5), .int (nI kn), .ref (z 6), .ref (z 7), .ref (z 8), .int (nI no), .int (nI at_), .int (nI so), .int (nI sr), .int (nI va), .ref (z 9)])), (z 2, .inl (k.1 0, 23, .inl (ta_e t))), (z 4, .inl (k.1 0, 66, .inl (ta_e (ta_u f2 i 0)))), (z 7, .inl (k.1 1, 2, .inl (ta_e kp)))] := hD
        refine lv_iinc (v := nI (i + 1)) (lv' := [(1, .int (nI (i + 1))), (0, .ref (z 0))]) hx hb dX8_lays_15 hl (k := 0) rfl (ta_inc1 _) (by decide) rfl (fun ls hl => ?_)
        refine lv_goto (tgt := 2) hx hb dX8_lays_18 (by decide) ?_
        exact ih_2 (i + 1) (ta_u f2 i 0) (by omega) (ta_fill (h := fun _ => 0) h2) (by omega) _ _ _ hP hD hS (lv_sub hl [0, 1] rfl)
  exact loop_2 ((66 - 0) + 1) 0 g (by omega) (fun j hj => absurd hj (Nat.not_lt_zero j)) (Nat.lt_succ_self _) _ _ _ hP hD hS (lv_sub hl [0, 1] rfl)

set_option maxHeartbeats 4000000 in
set_option maxRecDepth 100000 in
theorem c_X8_mud (l : Launch) (D : va_G) (k : ta_C) (z : Nat → Nat) (ty : Nat) (kn : Nat) (no : Nat) (at_ : Nat) (so : Nat) (sr : Nat) (va : Nat) (t : Nat → Nat) (g : Nat → Nat) (x : Nat) (hok : tg_tok t) (wx : x < 4294967296) : ta_Mi (S := Unit) l D k yX8_mud cX8_mud 2 .int 1 40 [.ref (z 0), .int (nI x)] [(z 0, .inr (8, [.ref (z 1), .int (nI ty), .ref (z 2), .ref (z 3), .ref (z 4), .ref (z 5), .int (nI kn), .ref (z 6), .ref (z 7), .ref (z 8), .int (nI no), .int (nI at_), .int (nI so), .int (nI sr), .int (nI va), .ref (z 9)])), (z 2, .inl (k.1 0, 23, .inl (ta_e t))), (z 4, .inl (k.1 0, 66, .inl (ta_e g)))] (fun r _ => r = nI (sp_mud t g x)) (fun u => [(z 0, .inr (8, [.ref (z 1), .int (nI ty), .ref (z 2), .ref (z 3), .ref (z 4), .ref (z 5), .int (nI kn), .ref (z 6), .ref (z 7), .ref (z 8), .int (nI no), .int (nI at_), .int (nI so), .int (nI sr), .int (nI va), .ref (z 9)])), (z 2, .inl (k.1 0, 23, .inl (ta_e t))), (z 4, .inl (k.1 0, 66, .inl (ta_e g)))]) := by
  refine ta_enter_i (by decide) (Nat.le_of_ble_eq_true rfl) ?_
  intro p e s m below meth c A ls Q C ret hP hD hS hl
  have C : ta_At p l D k s m ([.ref (z 0), .int (nI x)] : List Value).toArray c RX8 cX8_mud 2 A := C
  have hx := C.1.1
  have hb := C.1.2.1
  have hl : lv_has ls 2 [(0, .ref (z 0)), (1, .int (nI x))] := hl
  obtain ⟨H, hH⟩ : ∃ H, H = s.heap := ⟨_, rfl⟩
  obtain ⟨locs, hlocs⟩ : ∃ q : List Loc, q = [] := ⟨_, rfl⟩
  have hP : va_P D vwCl [(z 0, .inr (8, [.ref (z 1), .int (nI ty), .ref (z 2), .ref (z 3), .ref (z 4), .ref (z 5), .int (nI kn), .ref (z 6), .ref (z 7), .ref (z 8), .int (nI no), .int (nI at_), .int (nI so), .int (nI sr), .int (nI va), .ref (z 9)])), (z 2, .inl (k.1 0, 23, .inl (ta_e t))), (z 4, .inl (k.1 0, 66, .inl (ta_e g)))] H := by rw [hH]; exact hP
  have hS : va_S A s.heap H locs := by rw [hH, hlocs]; exact hS
  rw [← hlocs]
  suffices hgoal : W p l e ({ frames := 1, cells := 0, slots := 0, locals := 40 }) s m ([.ref (z 0), .int (nI x)] : List Value).toArray below meth c H locs 0 0 Q (F0 m 0 ls []) by rw [hH] at hgoal; exact hgoal
  clear hH hlocs
  obtain ⟨a1, a2, a3, a4, -, -⟩ := hok
  have hm : t 0 * t 1 ≤ 36 := tg_36 a2 a4
  have hm1 : 4 ≤ t 0 * t 1 := Nat.mul_le_mul a1 a3
  refine lv_iload_n hx hb dX8_mud_0 rfl (lv_at hl 1 rfl) ?_
  refine ta_iconst C 0 dX8_mud_1 (by decide) ?_
  refine lv_aload_n hx hb dX8_mud_2 rfl (lv_at hl 0 rfl) ?_
  refine ta_callVi (As := []) (rest0 := [.int (nI 0), .int (nI x)]) (Wr := [(z 4, .inl (k.1 0, 66, .inl (ta_e g)))]) C hP hD hS (c_X8_cells l D k z ty kn no at_ so sr va t) 0 rfl rfl rfl [0, 1] [2] rfl rfl (by decide) (by decide) (by decide) tw_378 tw_375 tw_5 tw_376 tw_377 ⟨by decide, by decide, rfl⟩ ⟨Nat.le_of_ble_eq_true rfl, Nat.le_of_ble_eq_true rfl⟩ ⟨Nat.zero_le _, Nat.zero_le _⟩ hl.1 rfl (Nat.le_of_ble_eq_true rfl) dX8_mud_3 (fun r1 u2 H locs h3 hP hD hS => ?_)
  obtain rfl := h3
  have hP : va_P D vwCl [(z 4, .inl (k.1 0, 66, .inl (ta_e g))), (z 0, .inr (8, [.ref (z 1), .int (nI ty), .ref (z 2), .ref (z 3), .ref (z 4), .ref (z 5), .int (nI kn), .ref (z 6), .ref (z 7), .ref (z 8), .int (nI no), .int (nI at_), .int (nI so), .int (nI sr), .int (nI va), .ref (z 9)])), (z 2, .inl (k.1 0, 23, .inl (ta_e t)))] H := hP
  have hD : va_D A [(z 4, .inl (k.1 0, 66, .inl (ta_e g))), (z 0, .inr (8, [.ref (z 1), .int (nI ty), .ref (z 2), .ref (z 3), .ref (z 4), .ref (z 5), .int (nI kn), .ref (z 6), .ref (z 7), .ref (z 8), .int (nI no), .int (nI at_), .int (nI so), .int (nI sr), .int (nI va), .ref (z 9)])), (z 2, .inl (k.1 0, 23, .inl (ta_e t)))] := hD
  refine ta_iconst C 1 dX8_mud_6 (by decide) ?_
  refine ta_isub C (a := t 0 * t 1) (b := 1) (by omega) dX8_mud_7 ?_
  refine ta_callSi (As := [.int (nI x), .int (nI 0), .int (nI ((t 0 * t 1) - 1))]) (rest0 := []) (Wr := [(z 4, .inl (k.1 0, 66, .inl (ta_e g))), (z 0, .inr (8, [.ref (z 1), .int (nI ty), .ref (z 2), .ref (z 3), .ref (z 4), .ref (z 5), .int (nI kn), .ref (z 6), .ref (z 7), .ref (z 8), .int (nI no), .int (nI at_), .int (nI so), .int (nI sr), .int (nI va), .ref (z 9)])), (z 2, .inl (k.1 0, 23, .inl (ta_e t)))]) C hP hD hS (c_X8_in_w l D k x 0 ((t 0 * t 1) - 1) (by omega) (by omega) (by omega)) [] [0, 1, 2] rfl rfl (by decide) (by decide) (by decide) tw_159 tw_157 tw_5 tw_158 ⟨by decide, by decide, rfl⟩ ⟨Nat.le_of_ble_eq_true rfl, Nat.le_of_ble_eq_true rfl⟩ ⟨Nat.zero_le _, Nat.zero_le _⟩ hl.1 rfl (Nat.le_of_ble_eq_true rfl) dX8_mud_8 (fun r4 u5 H locs h6 hP hD hS => ?_)
  rcases h6 with h0 | h0
  · obtain ⟨hi7, rfl⟩ := h0
    have hP : va_P D vwCl [(z 4, .inl (k.1 0, 66, .inl (ta_e g))), (z 0, .inr (8, [.ref (z 1), .int (nI ty), .ref (z 2), .ref (z 3), .ref (z 4), .ref (z 5), .int (nI kn), .ref (z 6), .ref (z 7), .ref (z 8), .int (nI no), .int (nI at_), .int (nI so), .int (nI sr), .int (nI va), .ref (z 9)])), (z 2, .inl (k.1 0, 23, .inl (ta_e t)))] H := hP
    have hD : va_D A [(z 4, .inl (k.1 0, 66, .inl (ta_e g))), (z 0, .inr (8, [.ref (z 1), .int (nI ty), .ref (z 2), .ref (z 3), .ref (z 4), .ref (z 5), .int (nI kn), .ref (z 6), .ref (z 7), .ref (z 8), .int (nI no), .int (nI at_), .int (nI so), .int (nI sr), .int (nI va), .ref (z 9)])), (z 2, .inl (k.1 0, 23, .inl (ta_e t)))] := hD
    refine lv_if_eq (tgt := 26) hx hb dX8_mud_11 (by decide) (fun c8 => ?_) (fun c8 => ?_)
    · exact absurd c8 (by decide)
    · refine lv_aload_n hx hb dX8_mud_14 rfl (lv_at hl 0 rfl) ?_
      refine ta_get C hP 1 inlX8 rfl rfl 4 (by decide) tw_128 rfl dX8_mud_15 ?_
      refine ta_bipush C 30 dX8_mud_18 (by decide) ?_
      refine lv_iload_n hx hb dX8_mud_20 rfl (lv_at hl 1 rfl) ?_
      refine ta_iadd C (a := 30) (b := x) dX8_mud_21 ?_
      refine ta_iald C hP 0 rfl (i := 30 + x) (by omega) dX8_mud_22 ?_
      refine lv_goto (tgt := 28) hx hb dX8_mud_23 (by decide) ?_
      have hP : va_P D vwCl [(z 0, .inr (8, [.ref (z 1), .int (nI ty), .ref (z 2), .ref (z 3), .ref (z 4), .ref (z 5), .int (nI kn), .ref (z 6), .ref (z 7), .ref (z 8), .int (nI no), .int (nI at_), .int (nI so), .int (nI sr), .int (nI va), .ref (z 9)])), (z 2, .inl (k.1 0, 23, .inl (ta_e t))), (z 4, .inl (k.1 0, 66, .inl (ta_e g)))] H := hP.sub [1, 2, 0] rfl
      have hD : va_D A [(z 0, .inr (8, [.ref (z 1), .int (nI ty), .ref (z 2), .ref (z 3), .ref (z 4), .ref (z 5), .int (nI kn), .ref (z 6), .ref (z 7), .ref (z 8), .int (nI no), .int (nI at_), .int (nI so), .int (nI sr), .int (nI va), .ref (z 9)])), (z 2, .inl (k.1 0, 23, .inl (ta_e t))), (z 4, .inl (k.1 0, 66, .inl (ta_e g)))] := hD.sub [1, 2, 0] (by decide) rfl
      have e1 : sp_mud t g x = g (30 + x) := by unfold sp_mud; (repeat' split) <;> omega
      exact ret _ () dX8_mud_28 rfl (by rw [e1]) hP hD hS
  · obtain ⟨hi9, rfl⟩ := h0
    have hP : va_P D vwCl [(z 4, .inl (k.1 0, 66, .inl (ta_e g))), (z 0, .inr (8, [.ref (z 1), .int (nI ty), .ref (z 2), .ref (z 3), .ref (z 4), .ref (z 5), .int (nI kn), .ref (z 6), .ref (z 7), .ref (z 8), .int (nI no), .int (nI at_), .int (nI so), .int (nI sr), .int (nI va), .ref (z 9)])), (z 2, .inl (k.1 0, 23, .inl (ta_e t)))] H := hP
    have hD : va_D A [(z 4, .inl (k.1 0, 66, .inl (ta_e g))), (z 0, .inr (8, [.ref (z 1), .int (nI ty), .ref (z 2), .ref (z 3), .ref (z 4), .ref (z 5), .int (nI kn), .ref (z 6), .ref (z 7), .ref (z 8), .int (nI no), .int (nI at_), .int (nI so), .int (nI sr), .int (nI va), .ref (z 9)])), (z 2, .inl (k.1 0, 23, .inl (ta_e t)))] := hD
    refine lv_if_eq (tgt := 26) hx hb dX8_mud_11 (by decide) (fun c10 => ?_) (fun c10 => ?_)
    · refine ta_bipush C 4294967294 dX8_mud_26 (by decide) ?_
      have hP : va_P D vwCl [(z 0, .inr (8, [.ref (z 1), .int (nI ty), .ref (z 2), .ref (z 3), .ref (z 4), .ref (z 5), .int (nI kn), .ref (z 6), .ref (z 7), .ref (z 8), .int (nI no), .int (nI at_), .int (nI so), .int (nI sr), .int (nI va), .ref (z 9)])), (z 2, .inl (k.1 0, 23, .inl (ta_e t))), (z 4, .inl (k.1 0, 66, .inl (ta_e g)))] H := hP.sub [1, 2, 0] rfl
      have hD : va_D A [(z 0, .inr (8, [.ref (z 1), .int (nI ty), .ref (z 2), .ref (z 3), .ref (z 4), .ref (z 5), .int (nI kn), .ref (z 6), .ref (z 7), .ref (z 8), .int (nI no), .int (nI at_), .int (nI so), .int (nI sr), .int (nI va), .ref (z 9)])), (z 2, .inl (k.1 0, 23, .inl (ta_e t))), (z 4, .inl (k.1 0, 66, .inl (ta_e g)))] := hD.sub [1, 2, 0] (by decide) rfl
      have e1 : sp_mud t g x = 4294967294 := by unfold sp_mud; (repeat' split) <;> omega
      exact ret _ () dX8_mud_28 rfl (by rw [e1]) hP hD hS
    · exact absurd c10 (by decide)

set_option maxHeartbeats 4000000 in
set_option maxRecDepth 100000 in
theorem c_X8_in_m1 (l : Launch) (D : va_G) (k : ta_C) (v : Nat) (hb1 : v < 4294967296) : ta_Mi (S := Unit) l D k yX8_in cX8_in 3 .boolean 0 0 [.int (nI v), .int (nI 0), .int (nI 4294967295)] [] (fun r _ => r = nI 0) (fun u => []) := by
  refine ta_enter_i (by decide) (Nat.le_of_ble_eq_true rfl) ?_
  intro p e s m below meth c A ls Q C ret hP hD hS hl
  have C : ta_At p l D k s m ([.int (nI v), .int (nI 0), .int (nI 4294967295)] : List Value).toArray c RX8 cX8_in 3 A := C
  have hx := C.1.1
  have hb := C.1.2.1
  have hl : lv_has ls 3 [(0, .int (nI v)), (1, .int (nI 0)), (2, .int (nI 4294967295))] := hl
  obtain ⟨H, hH⟩ : ∃ H, H = s.heap := ⟨_, rfl⟩
  obtain ⟨locs, hlocs⟩ : ∃ q : List Loc, q = [] := ⟨_, rfl⟩
  have hP : va_P D vwCl [] H := by rw [hH]; exact hP
  have hS : va_S A s.heap H locs := by rw [hH, hlocs]; exact hS
  rw [← hlocs]
  suffices hgoal : W p l e ({ frames := 0, cells := 0, slots := 0, locals := 0 }) s m ([.int (nI v), .int (nI 0), .int (nI 4294967295)] : List Value).toArray below meth c H locs 0 0 Q (F0 m 0 ls []) by rw [hH] at hgoal; exact hgoal
  clear hH hlocs
  refine lv_iload_n hx hb dX8_in_0 rfl (lv_at hl 0 rfl) ?_
  refine lv_iload_n hx hb dX8_in_1 rfl (lv_at hl 1 rfl) ?_
  refine ta_wlt C (a := v) (b := 0) (tgt := 14) (by omega) (by omega) dX8_in_2 (by decide) (fun c1 => ?_) (fun c1 => ?_)
  · refine ta_iconst C 0 dX8_in_14 (by decide) ?_
    exact ret _ () dX8_in_15 (by decide) rfl hP hD hS
  · refine lv_iload_n hx hb dX8_in_5 rfl (lv_at hl 0 rfl) ?_
    refine lv_iload_n hx hb dX8_in_6 rfl (lv_at hl 2 rfl) ?_
    refine lv_icmp_gt (tgt := 14) hx hb dX8_in_7 (by decide) (fun _ => ?_) (fun h => absurd (ta_neg1 (by omega)) h)
    refine ta_iconst C 0 dX8_in_14 (by decide) ?_
    exact ret _ () dX8_in_15 (by decide) rfl hP hD hS

set_option maxHeartbeats 4000000 in
set_option maxRecDepth 100000 in
theorem c_X8_figure (l : Launch) (D : va_G) (k : ta_C) (z : Nat → Nat) (ty : Nat) (kn : Nat) (no : Nat) (at_ : Nat) (so : Nat) (sr : Nat) (va : Nat) (t : Nat → Nat) (g : Nat → Nat) (a : Nat) (j : Nat) (w : Nat) (hok : tg_ok t g) (hh0 : g 0 < 1073741824) (wa : a < 4294967296) (wj : j < 4294967296) (ww : w < 4294967296) : ta_Mi (S := Unit) l D k yX8_figure cX8_figure 5 .int 1 40 [.ref (z 0), .int (nI a), .int (nI j), .int (nI w)] [(z 0, .inr (8, [.ref (z 1), .int (nI ty), .ref (z 2), .ref (z 3), .ref (z 4), .ref (z 5), .int (nI kn), .ref (z 6), .ref (z 7), .ref (z 8), .int (nI no), .int (nI at_), .int (nI so), .int (nI sr), .int (nI va), .ref (z 9)])), (z 4, .inl (k.1 0, 66, .inl (ta_e g)))] (fun r _ => r = nI (sp_figure g a j w)) (fun u => [(z 0, .inr (8, [.ref (z 1), .int (nI ty), .ref (z 2), .ref (z 3), .ref (z 4), .ref (z 5), .int (nI kn), .ref (z 6), .ref (z 7), .ref (z 8), .int (nI no), .int (nI at_), .int (nI so), .int (nI sr), .int (nI va), .ref (z 9)])), (z 4, .inl (k.1 0, 66, .inl (ta_e g)))]) := by
  refine ta_enter_i (by decide) (Nat.le_of_ble_eq_true rfl) ?_
  intro p e s m below meth c A ls Q C ret hP hD hS hl
  have C : ta_At p l D k s m ([.ref (z 0), .int (nI a), .int (nI j), .int (nI w)] : List Value).toArray c RX8 cX8_figure 5 A := C
  have hx := C.1.1
  have hb := C.1.2.1
  have hl : lv_has ls 5 [(0, .ref (z 0)), (1, .int (nI a)), (2, .int (nI j)), (3, .int (nI w))] := hl
  obtain ⟨H, hH⟩ : ∃ H, H = s.heap := ⟨_, rfl⟩
  obtain ⟨locs, hlocs⟩ : ∃ q : List Loc, q = [] := ⟨_, rfl⟩
  have hP : va_P D vwCl [(z 0, .inr (8, [.ref (z 1), .int (nI ty), .ref (z 2), .ref (z 3), .ref (z 4), .ref (z 5), .int (nI kn), .ref (z 6), .ref (z 7), .ref (z 8), .int (nI no), .int (nI at_), .int (nI so), .int (nI sr), .int (nI va), .ref (z 9)])), (z 4, .inl (k.1 0, 66, .inl (ta_e g)))] H := by rw [hH]; exact hP
  have hS : va_S A s.heap H locs := by rw [hH, hlocs]; exact hS
  rw [← hlocs]
  suffices hgoal : W p l e ({ frames := 1, cells := 0, slots := 0, locals := 40 }) s m ([.ref (z 0), .int (nI a), .int (nI j), .int (nI w)] : List Value).toArray below meth c H locs 0 0 Q (F0 m 0 ls []) by rw [hH] at hgoal; exact hgoal
  clear hH hlocs
  obtain ⟨⟨a1, a2, a3, a4, a5, a6⟩, b1, b2, b3, b4, b6, b7, b8, b9⟩ := id hok
  refine lv_iload_n hx hb dX8_figure_0 rfl (lv_at hl 1 rfl) ?_
  refine ta_iconst C 0 dX8_figure_1 (by decide) ?_
  refine ta_iconst C 1 dX8_figure_2 (by decide) ?_
  refine ta_callSi (As := [.int (nI a), .int (nI 0), .int (nI 1)]) (rest0 := []) (Wr := [(z 0, .inr (8, [.ref (z 1), .int (nI ty), .ref (z 2), .ref (z 3), .ref (z 4), .ref (z 5), .int (nI kn), .ref (z 6), .ref (z 7), .ref (z 8), .int (nI no), .int (nI at_), .int (nI so), .int (nI sr), .int (nI va), .ref (z 9)])), (z 4, .inl (k.1 0, 66, .inl (ta_e g)))]) C hP hD hS (c_X8_in_w l D k a 0 1 (by omega) (by omega) (by omega)) [] [0, 1] rfl rfl (by decide) (by decide) (by decide) tw_159 tw_157 tw_5 tw_158 ⟨by decide, by decide, rfl⟩ ⟨Nat.le_of_ble_eq_true rfl, Nat.le_of_ble_eq_true rfl⟩ ⟨Nat.zero_le _, Nat.zero_le _⟩ hl.1 rfl (Nat.le_of_ble_eq_true rfl) dX8_figure_3 (fun r1 u2 H locs h3 hP hD hS => ?_)
  rcases h3 with h0 | h0
  · obtain ⟨hi4, rfl⟩ := h0
    have hP : va_P D vwCl [(z 0, .inr (8, [.ref (z 1), .int (nI ty), .ref (z 2), .ref (z 3), .ref (z 4), .ref (z 5), .int (nI kn), .ref (z 6), .ref (z 7), .ref (z 8), .int (nI no), .int (nI at_), .int (nI so), .int (nI sr), .int (nI va), .ref (z 9)])), (z 4, .inl (k.1 0, 66, .inl (ta_e g)))] H := hP
    have hD : va_D A [(z 0, .inr (8, [.ref (z 1), .int (nI ty), .ref (z 2), .ref (z 3), .ref (z 4), .ref (z 5), .int (nI kn), .ref (z 6), .ref (z 7), .ref (z 8), .int (nI no), .int (nI at_), .int (nI so), .int (nI sr), .int (nI va), .ref (z 9)])), (z 4, .inl (k.1 0, 66, .inl (ta_e g)))] := hD
    obtain ⟨hn8, hfgs⟩ := tg_ok_a hok (show a < 2 by have h9 := hi4; omega)
    refine lv_if_eq (tgt := 28) hx hb dX8_figure_6 (by decide) (fun c5 => ?_) (fun c5 => ?_)
    · exact absurd c5 (by decide)
    · refine lv_iload_n hx hb dX8_figure_9 rfl (lv_at hl 2 rfl) ?_
      refine ta_iconst C 0 dX8_figure_10 (by decide) ?_
      refine lv_aload_n hx hb dX8_figure_11 rfl (lv_at hl 0 rfl) ?_
      refine ta_get C hP 0 inlX8 rfl rfl 4 (by decide) tw_128 rfl dX8_figure_12 ?_
      refine ta_bipush C 6 dX8_figure_15 (by decide) ?_
      refine lv_iload_n hx hb dX8_figure_17 rfl (lv_at hl 1 rfl) ?_
      refine ta_iadd C (a := 6) (b := a) dX8_figure_18 ?_
      refine ta_iald C hP 1 rfl (i := 6 + a) (by omega) dX8_figure_19 ?_
      refine ta_iconst C 1 dX8_figure_20 (by decide) ?_
      rcases Nat.eq_zero_or_pos (g (6 + a)) with h0 | h0
      · refine lv_isub hx hb dX8_figure_21 ?_
        refine ta_val (y := nI 4294967295) (by rw [h0]; decide) ?_
        refine ta_callSi (As := [.int (nI j), .int (nI 0), .int (nI 4294967295)]) (rest0 := []) (Wr := [(z 0, .inr (8, [.ref (z 1), .int (nI ty), .ref (z 2), .ref (z 3), .ref (z 4), .ref (z 5), .int (nI kn), .ref (z 6), .ref (z 7), .ref (z 8), .int (nI no), .int (nI at_), .int (nI so), .int (nI sr), .int (nI va), .ref (z 9)])), (z 4, .inl (k.1 0, 66, .inl (ta_e g)))]) C hP hD hS (c_X8_in_m1 l D k j (by omega)) [] [0, 1] rfl rfl (by decide) (by decide) (by decide) tw_159 tw_157 tw_5 tw_158 ⟨by decide, by decide, rfl⟩ ⟨Nat.le_of_ble_eq_true rfl, Nat.le_of_ble_eq_true rfl⟩ ⟨Nat.zero_le _, Nat.zero_le _⟩ hl.1 rfl (Nat.le_of_ble_eq_true rfl) dX8_figure_22 (fun r6 u7 H locs h8 hP hD hS => ?_)
        obtain rfl := h8
        have hP : va_P D vwCl [(z 0, .inr (8, [.ref (z 1), .int (nI ty), .ref (z 2), .ref (z 3), .ref (z 4), .ref (z 5), .int (nI kn), .ref (z 6), .ref (z 7), .ref (z 8), .int (nI no), .int (nI at_), .int (nI so), .int (nI sr), .int (nI va), .ref (z 9)])), (z 4, .inl (k.1 0, 66, .inl (ta_e g)))] H := hP
        have hD : va_D A [(z 0, .inr (8, [.ref (z 1), .int (nI ty), .ref (z 2), .ref (z 3), .ref (z 4), .ref (z 5), .int (nI kn), .ref (z 6), .ref (z 7), .ref (z 8), .int (nI no), .int (nI at_), .int (nI so), .int (nI sr), .int (nI va), .ref (z 9)])), (z 4, .inl (k.1 0, 66, .inl (ta_e g)))] := hD
        refine lv_if_ne (tgt := 31) hx hb dX8_figure_25 (by decide) (fun c9 => ?_) (fun c9 => ?_)
        · exact absurd c9 (by decide)
        · refine ta_bipush C 4294967294 dX8_figure_28 (by decide) ?_
          have e1 : sp_figure g a j w = 4294967294 := by unfold sp_figure; (repeat' split) <;> omega
          exact ret _ () dX8_figure_30 rfl (by rw [e1]) hP hD hS
      · skip
        refine ta_isub C (a := g (6 + a)) (b := 1) (by omega) dX8_figure_21 ?_
        refine ta_callSi (As := [.int (nI j), .int (nI 0), .int (nI ((g (6 + a)) - 1))]) (rest0 := []) (Wr := [(z 0, .inr (8, [.ref (z 1), .int (nI ty), .ref (z 2), .ref (z 3), .ref (z 4), .ref (z 5), .int (nI kn), .ref (z 6), .ref (z 7), .ref (z 8), .int (nI no), .int (nI at_), .int (nI so), .int (nI sr), .int (nI va), .ref (z 9)])), (z 4, .inl (k.1 0, 66, .inl (ta_e g)))]) C hP hD hS (c_X8_in_w l D k j 0 ((g (6 + a)) - 1) (by omega) (by omega) (by omega)) [] [0, 1] rfl rfl (by decide) (by decide) (by decide) tw_159 tw_157 tw_5 tw_158 ⟨by decide, by decide, rfl⟩ ⟨Nat.le_of_ble_eq_true rfl, Nat.le_of_ble_eq_true rfl⟩ ⟨Nat.zero_le _, Nat.zero_le _⟩ hl.1 rfl (Nat.le_of_ble_eq_true rfl) dX8_figure_22 (fun r10 u11 H locs h12 hP hD hS => ?_)
        rcases h12 with h0 | h0
        · obtain ⟨hi13, rfl⟩ := h0
          have hP : va_P D vwCl [(z 0, .inr (8, [.ref (z 1), .int (nI ty), .ref (z 2), .ref (z 3), .ref (z 4), .ref (z 5), .int (nI kn), .ref (z 6), .ref (z 7), .ref (z 8), .int (nI no), .int (nI at_), .int (nI so), .int (nI sr), .int (nI va), .ref (z 9)])), (z 4, .inl (k.1 0, 66, .inl (ta_e g)))] H := hP
          have hD : va_D A [(z 0, .inr (8, [.ref (z 1), .int (nI ty), .ref (z 2), .ref (z 3), .ref (z 4), .ref (z 5), .int (nI kn), .ref (z 6), .ref (z 7), .ref (z 8), .int (nI no), .int (nI at_), .int (nI so), .int (nI sr), .int (nI va), .ref (z 9)])), (z 4, .inl (k.1 0, 66, .inl (ta_e g)))] := hD
          refine lv_if_ne (tgt := 31) hx hb dX8_figure_25 (by decide) (fun c14 => ?_) (fun c14 => ?_)
          · refine lv_aload_n hx hb dX8_figure_31 rfl (lv_at hl 0 rfl) ?_
            refine ta_get C hP 0 inlX8 rfl rfl 4 (by decide) tw_128 rfl dX8_figure_32 ?_
            refine lv_aload_n hx hb dX8_figure_35 rfl (lv_at hl 0 rfl) ?_
            refine lv_iload_n hx hb dX8_figure_36 rfl (lv_at hl 1 rfl) ?_
            refine lv_iload_n hx hb dX8_figure_37 rfl (lv_at hl 2 rfl) ?_
            refine ta_callVi (As := [.int (nI a), .int (nI j)]) (rest0 := [.ref (z 4)]) (Wr := [(z 4, .inl (k.1 0, 66, .inl (ta_e g)))]) C hP hD hS (c_X8_next l D k z ty kn no at_ so sr va a j) 0 rfl rfl rfl [0] [1] rfl rfl (by decide) (by decide) (by decide) tw_393 tw_390 tw_5 tw_391 tw_392 ⟨by decide, by decide, rfl⟩ ⟨Nat.le_of_ble_eq_true rfl, Nat.le_of_ble_eq_true rfl⟩ ⟨Nat.zero_le _, Nat.zero_le _⟩ hl.1 rfl (Nat.le_of_ble_eq_true rfl) dX8_figure_38 (fun r15 u16 H locs h17 hP hD hS => ?_)
            obtain rfl := h17
            have hP : va_P D vwCl [(z 4, .inl (k.1 0, 66, .inl (ta_e g))), (z 0, .inr (8, [.ref (z 1), .int (nI ty), .ref (z 2), .ref (z 3), .ref (z 4), .ref (z 5), .int (nI kn), .ref (z 6), .ref (z 7), .ref (z 8), .int (nI no), .int (nI at_), .int (nI so), .int (nI sr), .int (nI va), .ref (z 9)]))] H := hP
            have hD : va_D A [(z 4, .inl (k.1 0, 66, .inl (ta_e g))), (z 0, .inr (8, [.ref (z 1), .int (nI ty), .ref (z 2), .ref (z 3), .ref (z 4), .ref (z 5), .int (nI kn), .ref (z 6), .ref (z 7), .ref (z 8), .int (nI no), .int (nI at_), .int (nI so), .int (nI sr), .int (nI va), .ref (z 9)]))] := hD
            refine ta_iald C hP 0 rfl (i := 8 + 8 * a + j) (by omega) dX8_figure_41 ?_
            have hfg := (hfgs j (by omega)).1
            refine lv_istore (lv' := [(4, .int (nI (g (8 + 8 * a + j)))), (0, .ref (z 0)), (1, .int (nI a)), (2, .int (nI j)), (3, .int (nI w))]) hx hb dX8_figure_42 hl (by decide) rfl (fun ls hl => ?_)
            refine lv_iload_n hx hb dX8_figure_44 rfl (lv_at hl 4 rfl) ?_
            refine ta_ine C (a := w) (tgt := 56) (by omega) dX8_figure_45 (by decide) (fun c18 => ?_) (fun c18 => ?_)
            · refine lv_iload_n hx hb dX8_figure_56 rfl (lv_at hl 4 rfl) ?_
              refine ta_iconst C 1 dX8_figure_57 (by decide) ?_
              refine ta_cne C (a := w) (b := 1) (tgt := 69) (by omega) (by omega) dX8_figure_58 (by decide) (fun c19 => ?_) (fun c19 => ?_)
              · refine ta_bipush C 4294967293 dX8_figure_69 (by decide) ?_
                have hP : va_P D vwCl [(z 0, .inr (8, [.ref (z 1), .int (nI ty), .ref (z 2), .ref (z 3), .ref (z 4), .ref (z 5), .int (nI kn), .ref (z 6), .ref (z 7), .ref (z 8), .int (nI no), .int (nI at_), .int (nI so), .int (nI sr), .int (nI va), .ref (z 9)])), (z 4, .inl (k.1 0, 66, .inl (ta_e g)))] H := hP.sub [1, 0] rfl
                have hD : va_D A [(z 0, .inr (8, [.ref (z 1), .int (nI ty), .ref (z 2), .ref (z 3), .ref (z 4), .ref (z 5), .int (nI kn), .ref (z 6), .ref (z 7), .ref (z 8), .int (nI no), .int (nI at_), .int (nI so), .int (nI sr), .int (nI va), .ref (z 9)])), (z 4, .inl (k.1 0, 66, .inl (ta_e g)))] := hD.sub [1, 0] (by decide) rfl
                have e1 : sp_figure g a j w = 4294967293 := by unfold sp_figure; (repeat' split) <;> omega
                exact ret _ () dX8_figure_71 rfl (by rw [e1]) hP hD hS
              · refine lv_iload hx hb dX8_figure_61 (lv_at hl 0 rfl) ?_
                refine ta_bipush C 10 dX8_figure_63 (by decide) ?_
                refine ta_irem C (a := g (8 + 8 * a + j)) (b := 10) (by omega) (by omega) (by omega) dX8_figure_65 ?_
                refine lv_goto (tgt := 71) hx hb dX8_figure_66 (by decide) ?_
                have hP : va_P D vwCl [(z 0, .inr (8, [.ref (z 1), .int (nI ty), .ref (z 2), .ref (z 3), .ref (z 4), .ref (z 5), .int (nI kn), .ref (z 6), .ref (z 7), .ref (z 8), .int (nI no), .int (nI at_), .int (nI so), .int (nI sr), .int (nI va), .ref (z 9)])), (z 4, .inl (k.1 0, 66, .inl (ta_e g)))] H := hP.sub [1, 0] rfl
                have hD : va_D A [(z 0, .inr (8, [.ref (z 1), .int (nI ty), .ref (z 2), .ref (z 3), .ref (z 4), .ref (z 5), .int (nI kn), .ref (z 6), .ref (z 7), .ref (z 8), .int (nI no), .int (nI at_), .int (nI so), .int (nI sr), .int (nI va), .ref (z 9)])), (z 4, .inl (k.1 0, 66, .inl (ta_e g)))] := hD.sub [1, 0] (by decide) rfl
                have e1 : sp_figure g a j w = (g (8 + 8 * a + j)) % 10 := by unfold sp_figure; (repeat' split) <;> omega
                exact ret _ () dX8_figure_71 rfl (by rw [e1]) hP hD hS
            · refine lv_iload hx hb dX8_figure_48 (lv_at hl 0 rfl) ?_
              refine ta_bipush C 10 dX8_figure_50 (by decide) ?_
              refine ta_idiv C (a := g (8 + 8 * a + j)) (b := 10) (by omega) (by omega) (by omega) dX8_figure_52 ?_
              refine lv_goto (tgt := 71) hx hb dX8_figure_53 (by decide) ?_
              have hP : va_P D vwCl [(z 0, .inr (8, [.ref (z 1), .int (nI ty), .ref (z 2), .ref (z 3), .ref (z 4), .ref (z 5), .int (nI kn), .ref (z 6), .ref (z 7), .ref (z 8), .int (nI no), .int (nI at_), .int (nI so), .int (nI sr), .int (nI va), .ref (z 9)])), (z 4, .inl (k.1 0, 66, .inl (ta_e g)))] H := hP.sub [1, 0] rfl
              have hD : va_D A [(z 0, .inr (8, [.ref (z 1), .int (nI ty), .ref (z 2), .ref (z 3), .ref (z 4), .ref (z 5), .int (nI kn), .ref (z 6), .ref (z 7), .ref (z 8), .int (nI no), .int (nI at_), .int (nI so), .int (nI sr), .int (nI va), .ref (z 9)])), (z 4, .inl (k.1 0, 66, .inl (ta_e g)))] := hD.sub [1, 0] (by decide) rfl
              have e1 : sp_figure g a j w = (g (8 + 8 * a + j)) / 10 := by unfold sp_figure; (repeat' split) <;> omega
              exact ret _ () dX8_figure_71 rfl (by rw [e1]) hP hD hS
          · exact absurd c14 (by decide)
        · obtain ⟨hi20, rfl⟩ := h0
          have hP : va_P D vwCl [(z 0, .inr (8, [.ref (z 1), .int (nI ty), .ref (z 2), .ref (z 3), .ref (z 4), .ref (z 5), .int (nI kn), .ref (z 6), .ref (z 7), .ref (z 8), .int (nI no), .int (nI at_), .int (nI so), .int (nI sr), .int (nI va), .ref (z 9)])), (z 4, .inl (k.1 0, 66, .inl (ta_e g)))] H := hP
          have hD : va_D A [(z 0, .inr (8, [.ref (z 1), .int (nI ty), .ref (z 2), .ref (z 3), .ref (z 4), .ref (z 5), .int (nI kn), .ref (z 6), .ref (z 7), .ref (z 8), .int (nI no), .int (nI at_), .int (nI so), .int (nI sr), .int (nI va), .ref (z 9)])), (z 4, .inl (k.1 0, 66, .inl (ta_e g)))] := hD
          refine lv_if_ne (tgt := 31) hx hb dX8_figure_25 (by decide) (fun c21 => ?_) (fun c21 => ?_)
          · exact absurd c21 (by decide)
          · refine ta_bipush C 4294967294 dX8_figure_28 (by decide) ?_
            have e1 : sp_figure g a j w = 4294967294 := by unfold sp_figure; (repeat' split) <;> omega
            exact ret _ () dX8_figure_30 rfl (by rw [e1]) hP hD hS
  · obtain ⟨hi22, rfl⟩ := h0
    have hP : va_P D vwCl [(z 0, .inr (8, [.ref (z 1), .int (nI ty), .ref (z 2), .ref (z 3), .ref (z 4), .ref (z 5), .int (nI kn), .ref (z 6), .ref (z 7), .ref (z 8), .int (nI no), .int (nI at_), .int (nI so), .int (nI sr), .int (nI va), .ref (z 9)])), (z 4, .inl (k.1 0, 66, .inl (ta_e g)))] H := hP
    have hD : va_D A [(z 0, .inr (8, [.ref (z 1), .int (nI ty), .ref (z 2), .ref (z 3), .ref (z 4), .ref (z 5), .int (nI kn), .ref (z 6), .ref (z 7), .ref (z 8), .int (nI no), .int (nI at_), .int (nI so), .int (nI sr), .int (nI va), .ref (z 9)])), (z 4, .inl (k.1 0, 66, .inl (ta_e g)))] := hD
    refine lv_if_eq (tgt := 28) hx hb dX8_figure_6 (by decide) (fun c23 => ?_) (fun c23 => ?_)
    · refine ta_bipush C 4294967294 dX8_figure_28 (by decide) ?_
      have e1 : sp_figure g a j w = 4294967294 := by unfold sp_figure; (repeat' split) <;> omega
      exact ret _ () dX8_figure_30 rfl (by rw [e1]) hP hD hS
    · exact absurd c23 (by decide)
