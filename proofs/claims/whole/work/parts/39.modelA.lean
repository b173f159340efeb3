def sp_keep (g : Nat → Nat) (x : Nat) : Nat := if x < 2 then g 0 else 4294967294
def sp_back (kp : Nat → Nat) (K : Nat → Nat → Nat) (x : Nat) : Nat := if x < 2 then (if kp x = 0 then 4294967292 else K x 0) else 4294967294
def sp_back_c (kp : Nat → Nat) (x : Nat) : Prop := x < 2 ∧ kp x ≠ 0
/-- the days that are kept, as they lie in one row -/
def mo_K (im kp : Nat → Nat) (K : Nat → Nat → Nat) : Prop := ∀ i, i < 2 → kp i ≠ 0 → ∀ j, j < 66 → im (66 * i + j) = K i j
theorem mo_Kk {im kp g : Nat → Nat} {K : Nat → Nat → Nat} {x : Nat} (h : mo_K im kp K) : mo_K (va_cpy g im 0 (66 * x) 66) (ta_u kp x 1) (va_up K x g) := by
  intro i hi hk j hj
  unfold va_up
  by_cases e : i = x
  · subst e
    rw [if_pos rfl, pk_cpy_in (by omega) (by omega)]
    congr 1
    omega
  · rw [if_neg e, pk_cpy_out (by omega)]
    rw [ta_un e] at hk
    exact h i hi hk j hj
set_option maxHeartbeats 4000000 in
set_option maxRecDepth 100000 in
theorem c_X8_wind (l : Launch) (D : va_G) (k : ta_C) (z : Nat → Nat) (ty : Nat) (kn : Nat) (no : Nat) (at_ : Nat) (so : Nat) (sr : Nat) (va : Nat) (t : Nat → Nat) (g : Nat → Nat) (pa : Nat → Nat) (n : Nat) (hok : tg_ok t g) (hh0 : g 0 < 1073741824) (hkn : kn ≤ 8) (wn : n < 4294967296) : ta_Mi (S := Unit) l D k yX8_wind cX8_wind 2 .int 3 100 [.ref (z 0), .int (nI n)] [(z 0, .inr (8, [.ref (z 1), .int (nI ty), .ref (z 2), .ref (z 3), .ref (z 4), .ref (z 5), .int (nI kn), .ref (z 6), .ref (z 7), .ref (z 8), .int (nI no), .int (nI at_), .int (nI so), .int (nI sr), .int (nI va), .ref (z 9)])), (z 2, .inl (k.1 0, 23, .inl (ta_e t))), (z 4, .inl (k.1 0, 66, .inl (ta_e g))), (z 5, .inl (k.1 0, 528, .inl (ta_e pa)))] (fun r _ => r = nI (sp_wind t g n)) (fun u => [(z 0, .inr (8, [.ref (z 1), .int (nI ty), .ref (z 2), .ref (z 3), .ref (z 4), .ref (z 5), .int (nI (cl_if (n ≤ 8) (sp_n kn) (kn))), .ref (z 6), .ref (z 7), .ref (z 8), .int (nI no), .int (nI at_), .int (nI so), .int (nI sr), .int (nI va), .ref (z 9)])), (z 2, .inl (k.1 0, 23, .inl (ta_e t))), (z 4, .inl (k.1 0, 66, .inl (ta_e (cl_if (n ≤ 8) (tg_wind t g n) (g))))), (z 5, .inl (k.1 0, 528, .inl (ta_e (cl_if (n ≤ 8) (mo_pa kn pa g) (pa)))))]) := by
  refine ta_enter_i (by decide) (Nat.le_of_ble_eq_true rfl) ?_
  intro p e s m below meth c A ls Q C ret hP hD hS hl
  have C : ta_At p l D k s m ([.ref (z 0), .int (nI n)] : List Value).toArray c RX8 cX8_wind 2 A := C
  have hx := C.1.1
  have hb := C.1.2.1
  have hl : lv_has ls 2 [(0, .ref (z 0)), (1, .int (nI n))] := hl
  obtain ⟨H, hH⟩ : ∃ H, H = s.heap := ⟨_, rfl⟩
  obtain ⟨locs, hlocs⟩ : ∃ q : List Loc, q = [] := ⟨_, rfl⟩
  have hP : va_P D vwCl [(z 0, .inr (8, [.ref (z 1), .int (nI ty), .ref (z 2), .ref (z 3), .ref (z 4), .ref (z 5), .int (nI kn), .ref (z 6), .ref (z 7), .ref (z 8), .int (nI no), .int (nI at_), .int (nI so), .int (nI sr), .int (nI va), .ref (z 9)])), (z 2, .inl (k.1 0, 23, .inl (ta_e t))), (z 4, .inl (k.1 0, 66, .inl (ta_e g))), (z 5, .inl (k.1 0, 528, .inl (ta_e pa)))] H := by rw [hH]; exact hP
  have hS : va_S A s.heap H locs := by rw [hH, hlocs]; exact hS
  rw [← hlocs]
  suffices hgoal : W p l e ({ frames := 3, cells := 0, slots := 0, locals := 100 }) s m ([.ref (z 0), .int (nI n)] : List Value).toArray below meth c H locs 0 0 Q (F0 m 0 ls []) by rw [hH] at hgoal; exact hgoal
  clear hH hlocs
  obtain ⟨⟨-, -, -, -, -, a6⟩, b1, -⟩ := id hok
  refine lv_iload_n hx hb dX8_wind_0 rfl (lv_at hl 1 rfl) ?_
  refine ta_iconst C 0 dX8_wind_1 (by decide) ?_
  refine ta_bipush C 8 dX8_wind_2 (by decide) ?_
  refine ta_callSi (As := [.int (nI n), .int (nI 0), .int (nI 8)]) (rest0 := []) (Wr := [(z 0, .inr (8, [.ref (z 1), .int (nI ty), .ref (z 2), .ref (z 3), .ref (z 4), .ref (z 5), .int (nI kn), .ref (z 6), .ref (z 7), .ref (z 8), .int (nI no), .int (nI at_), .int (nI so), .int (nI sr), .int (nI va), .ref (z 9)])), (z 2, .inl (k.1 0, 23, .inl (ta_e t))), (z 4, .inl (k.1 0, 66, .inl (ta_e g))), (z 5, .inl (k.1 0, 528, .inl (ta_e pa)))]) C hP hD hS (c_X8_in_w l D k n 0 8 (by omega) (by omega) (by omega)) [] [0, 1, 2, 3] rfl rfl (by decide) (by decide) (by decide) tw_159 tw_157 tw_5 tw_158 ⟨by decide, by decide, rfl⟩ ⟨Nat.le_of_ble_eq_true rfl, Nat.le_of_ble_eq_true rfl⟩ ⟨Nat.zero_le _, Nat.zero_le _⟩ hl.1 rfl (Nat.le_of_ble_eq_true rfl) dX8_wind_4 (fun r1 u2 H locs h3 hP hD hS => ?_)
  rcases h3 with h0 | h0
  · obtain ⟨hi4, rfl⟩ := h0
    have hP : va_P D vwCl [(z 0, .inr (8, [.ref (z 1), .int (nI ty), .ref (z 2), .ref (z 3), .ref (z 4), .ref (z 5), .int (nI kn), .ref (z 6), .ref (z 7), .ref (z 8), .int (nI no), .int (nI at_), .int (nI so), .int (nI sr), .int (nI va), .ref (z 9)])), (z 2, .inl (k.1 0, 23, .inl (ta_e t))), (z 4, .inl (k.1 0, 66, .inl (ta_e g))), (z 5, .inl (k.1 0, 528, .inl (ta_e pa)))] H := hP
    have hD : va_D A [(z 0, .inr (8, [.ref (z 1), .int (nI ty), .ref (z 2), .ref (z 3), .ref (z 4), .ref (z 5), .int (nI kn), .ref (z 6), .ref (z 7), .ref (z 8), .int (nI no), .int (nI at_), .int (nI so), .int (nI sr), .int (nI va), .ref (z 9)])), (z 2, .inl (k.1 0, 23, .inl (ta_e t))), (z 4, .inl (k.1 0, 66, .inl (ta_e g))), (z 5, .inl (k.1 0, 528, .inl (ta_e pa)))] := hD
    refine lv_if_ne (tgt := 13) hx hb dX8_wind_7 (by decide) (fun c5 => ?_) (fun c5 => ?_)
    · refine lv_aload_n hx hb dX8_wind_13 rfl (lv_at hl 0 rfl) ?_
      refine ta_callVv (As := []) (rest0 := []) (Wr := [(z 2, .inl (k.1 0, 23, .inl (ta_e t)))]) C hP hD hS (c_X8_keepsA l D k z ty kn no at_ so sr va g pa (by omega)) 0 rfl rfl rfl [0, 2, 3] [1] rfl rfl (by decide) (by decide) (by decide) tw_477 tw_474 tw_5 tw_475 tw_476 ⟨by decide, by decide, rfl⟩ ⟨Nat.le_of_ble_eq_true rfl, Nat.le_of_ble_eq_true rfl⟩ ⟨Nat.zero_le _, Nat.zero_le _⟩ hl.1 rfl (Nat.le_of_ble_eq_true rfl) dX8_wind_14 (fun u7 H locs h8 hP hD hS => ?_)
      have hP : va_P D vwCl [(z 2, .inl (k.1 0, 23, .inl (ta_e t))), (z 0, .inr (8, [.ref (z 1), .int (nI ty), .ref (z 2), .ref (z 3), .ref (z 4), .ref (z 5), .int (nI (sp_n kn)), .ref (z 6), .ref (z 7), .ref (z 8), .int (nI no), .int (nI at_), .int (nI so), .int (nI sr), .int (nI va), .ref (z 9)])), (z 4, .inl (k.1 0, 66, .inl (ta_e g))), (z 5, .inl (k.1 0, 528, .inl (ta_e (mo_pa kn pa g))))] H := hP
      have hD : va_D A [(z 2, .inl (k.1 0, 23, .inl (ta_e t))), (z 0, .inr (8, [.ref (z 1), .int (nI ty), .ref (z 2), .ref (z 3), .ref (z 4), .ref (z 5), .int (nI (sp_n kn)), .ref (z 6), .ref (z 7), .ref (z 8), .int (nI no), .int (nI at_), .int (nI so), .int (nI sr), .int (nI va), .ref (z 9)])), (z 4, .inl (k.1 0, 66, .inl (ta_e g))), (z 5, .inl (k.1 0, 528, .inl (ta_e (mo_pa kn pa g))))] := hD
      refine lv_aload_n hx hb dX8_wind_17 rfl (lv_at hl 0 rfl) ?_
      refine lv_iload_n hx hb dX8_wind_18 rfl (lv_at hl 1 rfl) ?_
      refine ta_callVv (As := [.int (nI n)]) (rest0 := []) (Wr := [(z 5, .inl (k.1 0, 528, .inl (ta_e (mo_pa kn pa g))))]) C hP hD hS (c_X8_winds l D k z ty (sp_n kn) no at_ so sr va t g n (by omega) (by omega)) 1 rfl rfl rfl [1, 0, 2] [3] rfl rfl (by decide) (by decide) (by decide) tw_519 tw_516 tw_5 tw_517 tw_518 ⟨by decide, by decide, rfl⟩ ⟨Nat.le_of_ble_eq_true rfl, Nat.le_of_ble_eq_true rfl⟩ ⟨Nat.zero_le _, Nat.zero_le _⟩ hl.1 rfl (Nat.le_of_ble_eq_true rfl) dX8_wind_19 (fun u10 H locs h11 hP hD hS => ?_)
      have hP : va_P D vwCl [(z 5, .inl (k.1 0, 528, .inl (ta_e (mo_pa kn pa g)))), (z 0, .inr (8, [.ref (z 1), .int (nI ty), .ref (z 2), .ref (z 3), .ref (z 4), .ref (z 5), .int (nI (sp_n kn)), .ref (z 6), .ref (z 7), .ref (z 8), .int (nI no), .int (nI at_), .int (nI so), .int (nI sr), .int (nI va), .ref (z 9)])), (z 2, .inl (k.1 0, 23, .inl (ta_e t))), (z 4, .inl (k.1 0, 66, .inl (ta_e (tg_wind t g n))))] H := hP
      have hD : va_D A [(z 5, .inl (k.1 0, 528, .inl (ta_e (mo_pa kn pa g)))), (z 0, .inr (8, [.ref (z 1), .int (nI ty), .ref (z 2), .ref (z 3), .ref (z 4), .ref (z 5), .int (nI (sp_n kn)), .ref (z 6), .ref (z 7), .ref (z 8), .int (nI no), .int (nI at_), .int (nI so), .int (nI sr), .int (nI va), .ref (z 9)])), (z 2, .inl (k.1 0, 23, .inl (ta_e t))), (z 4, .inl (k.1 0, 66, .inl (ta_e (tg_wind t g n))))] := hD
      refine lv_aload_n hx hb dX8_wind_22 rfl (lv_at hl 0 rfl) ?_
      refine ta_get C hP 1 inlX8 rfl rfl 4 (by decide) tw_128 rfl dX8_wind_23 ?_
      refine ta_iconst C 0 dX8_wind_26 (by decide) ?_
      refine ta_iald C hP 3 rfl (i := 0) (by omega) dX8_wind_27 ?_
      have hP : va_P D vwCl [(z 0, .inr (8, [.ref (z 1), .int (nI ty), .ref (z 2), .ref (z 3), .ref (z 4), .ref (z 5), .int (nI (sp_n kn)), .ref (z 6), .ref (z 7), .ref (z 8), .int (nI no), .int (nI at_), .int (nI so), .int (nI sr), .int (nI va), .ref (z 9)])), (z 2, .inl (k.1 0, 23, .inl (ta_e t))), (z 4, .inl (k.1 0, 66, .inl (ta_e (tg_wind t g n)))), (z 5, .inl (k.1 0, 528, .inl (ta_e (mo_pa kn pa g))))] H := hP.sub [1, 2, 3, 0] rfl
      have hD : va_D A [(z 0, .inr (8, [.ref (z 1), .int (nI ty), .ref (z 2), .ref (z 3), .ref (z 4), .ref (z 5), .int (nI (sp_n kn)), .ref (z 6), .ref (z 7), .ref (z 8), .int (nI no), .int (nI at_), .int (nI so), .int (nI sr), .int (nI va), .ref (z 9)])), (z 2, .inl (k.1 0, 23, .inl (ta_e t))), (z 4, .inl (k.1 0, 66, .inl (ta_e (tg_wind t g n)))), (z 5, .inl (k.1 0, 528, .inl (ta_e (mo_pa kn pa g))))] := hD.sub [1, 2, 3, 0] (by decide) rfl
      have hcd : (n ≤ 8) := by omega
      simp only [cl_p hcd] at ret
      have e1 : sp_wind t g n = (tg_wind t g n) 0 := by
        unfold sp_wind
        (repeat' split) <;> omega
      exact ret _ () dX8_wind_28 rfl (by rw [e1]) hP hD hS
    · exact absurd c5 (by decide)
  · obtain ⟨hi12, rfl⟩ := h0
    have hP : va_P D vwCl [(z 0, .inr (8, [.ref (z 1), .int (nI ty), .ref (z 2), .ref (z 3), .ref (z 4), .ref (z 5), .int (nI kn), .ref (z 6), .ref (z 7), .ref (z 8), .int (nI no), .int (nI at_), .int (nI so), .int (nI sr), .int (nI va), .ref (z 9)])), (z 2, .inl (k.1 0, 23, .inl (ta_e t))), (z 4, .inl (k.1 0, 66, .inl (ta_e g))), (z 5, .inl (k.1 0, 528, .inl (ta_e pa)))] H := hP
    have hD : va_D A [(z 0, .inr (8, [.ref (z 1), .int (nI ty), .ref (z 2), .ref (z 3), .ref (z 4), .ref (z 5), .int (nI kn), .ref (z 6), .ref (z 7), .ref (z 8), .int (nI no), .int (nI at_), .int (nI so), .int (nI sr), .int (nI va), .ref (z 9)])), (z 2, .inl (k.1 0, 23, .inl (ta_e t))), (z 4, .inl (k.1 0, 66, .inl (ta_e g))), (z 5, .inl (k.1 0, 528, .inl (ta_e pa)))] := hD
    refine lv_if_ne (tgt := 13) hx hb dX8_wind_7 (by decide) (fun c13 => ?_) (fun c13 => ?_)
    · exact absurd c13 (by decide)
    · refine ta_bipush C 4294967293 dX8_wind_10 (by decide) ?_
      have hcd : ¬ (n ≤ 8) := by omega
      simp only [cl_n hcd] at ret
      have e1 : sp_wind t g n = 4294967293 := by
        unfold sp_wind
        (repeat' split) <;> omega
      exact ret _ () dX8_wind_12 rfl (by rw [e1]) hP hD hS

set_option maxHeartbeats 4000000 in
set_option maxRecDepth 100000 in
theorem c_X8_order (l : Launch) (D : va_G) (k : ta_C) (z : Nat → Nat) (ty : Nat) (kn : Nat) (no : Nat) (at_ : Nat) (so : Nat) (sr : Nat) (va : Nat) (t : Nat → Nat) (g : Nat → Nat) (pa : Nat → Nat) (a : Nat) (kd : Nat) (mi : Nat) (hok : tg_ok t g) (hh0 : g 0 < 1073741824) (hkn : kn ≤ 8) (wa : a < 4294967296) (wkd : kd < 4294967296) (wmi : mi < 4294967296) : ta_Mi (S := Unit) l D k yX8_order cX8_order 4 .int 3 100 [.ref (z 0), .int (nI a), .int (nI kd), .int (nI mi)] [(z 0, .inr (8, [.ref (z 1), .int (nI ty), .ref (z 2), .ref (z 3), .ref (z 4), .ref (z 5), .int (nI kn), .ref (z 6), .ref (z 7), .ref (z 8), .int (nI no), .int (nI at_), .int (nI so), .int (nI sr), .int (nI va), .ref (z 9)])), (z 4, .inl (k.1 0, 66, .inl (ta_e g))), (z 5, .inl (k.1 0, 528, .inl (ta_e pa)))] (fun r _ => r = nI (sp_order g a kd mi)) (fun u => [(z 0, .inr (8, [.ref (z 1), .int (nI ty), .ref (z 2), .ref (z 3), .ref (z 4), .ref (z 5), .int (nI (cl_if (sp_order_c g a kd mi) (sp_n kn) (kn))), .ref (z 6), .ref (z 7), .ref (z 8), .int (nI no), .int (nI at_), .int (nI so), .int (nI sr), .int (nI va), .ref (z 9)])), (z 4, .inl (k.1 0, 66, .inl (ta_e (cl_if (sp_order_c g a kd mi) (tg_ord g a (10 * kd + mi)) (g))))), (z 5, .inl (k.1 0, 528, .inl (ta_e (cl_if (sp_order_c g a kd mi) (mo_pa kn pa g) (pa)))))]) := by
  refine ta_enter_i (by decide) (Nat.le_of_ble_eq_true rfl) ?_
  intro p e s m below meth c A ls Q C ret hP hD hS hl
  have C : ta_At p l D k s m ([.ref (z 0), .int (nI a), .int (nI kd), .int (nI mi)] : List Value).toArray c RX8 cX8_order 4 A := C
  have hx := C.1.1
  have hb := C.1.2.1
  have hl : lv_has ls 4 [(0, .ref (z 0)), (1, .int (nI a)), (2, .int (nI kd)), (3, .int (nI mi))] := hl
  obtain ⟨H, hH⟩ : ∃ H, H = s.heap := ⟨_, rfl⟩
  obtain ⟨locs, hlocs⟩ : ∃ q : List Loc, q = [] := ⟨_, rfl⟩
  have hP : va_P D vwCl [(z 0, .inr (8, [.ref (z 1), .int (nI ty), .ref (z 2), .ref (z 3), .ref (z 4), .ref (z 5), .int (nI kn), .ref (z 6), .ref (z 7), .ref (z 8), .int (nI no), .int (nI at_), .int (nI so), .int (nI sr), .int (nI va), .ref (z 9)])), (z 4, .inl (k.1 0, 66, .inl (ta_e g))), (z 5, .inl (k.1 0, 528, .inl (ta_e pa)))] H := by rw [hH]; exact hP
  have hS : va_S A s.heap H locs := by rw [hH, hlocs]; exact hS
  rw [← hlocs]
  suffices hgoal : W p l e ({ frames := 3, cells := 0, slots := 0, locals := 100 }) s m ([.ref (z 0), .int (nI a), .int (nI kd), .int (nI mi)] : List Value).toArray below meth c H locs 0 0 Q (F0 m 0 ls []) by rw [hH] at hgoal; exact hgoal
  clear hH hlocs
  refine lv_iload_n hx hb dX8_order_0 rfl (lv_at hl 1 rfl) ?_
  refine ta_iconst C 0 dX8_order_1 (by decide) ?_
  refine ta_iconst C 1 dX8_order_2 (by decide) ?_
  refine ta_callSi (As := [.int (nI a), .int (nI 0), .int (nI 1)]) (rest0 := []) (Wr := [(z 0, .inr (8, [.ref (z 1), .int (nI ty), .ref (z 2), .ref (z 3), .ref (z 4), .ref (z 5), .int (nI kn), .ref (z 6), .ref (z 7), .ref (z 8), .int (nI no), .int (nI at_), .int (nI so), .int (nI sr), .int (nI va), .ref (z 9)])), (z 4, .inl (k.1 0, 66, .inl (ta_e g))), (z 5, .inl (k.1 0, 528, .inl (ta_e pa)))]) C hP hD hS (c_X8_in_w l D k a 0 1 (by omega) (by omega) (by omega)) [] [0, 1, 2] rfl rfl (by decide) (by decide) (by decide) tw_159 tw_157 tw_5 tw_158 ⟨by decide, by decide, rfl⟩ ⟨Nat.le_of_ble_eq_true rfl, Nat.le_of_ble_eq_true rfl⟩ ⟨Nat.zero_le _, Nat.zero_le _⟩ hl.1 rfl (Nat.le_of_ble_eq_true rfl) dX8_order_3 (fun r1 u2 H locs h3 hP hD hS => ?_)
  rcases h3 with h0 | h0
  · obtain ⟨hi4, rfl⟩ := h0
    have hP : va_P D vwCl [(z 0, .inr (8, [.ref (z 1), .int (nI ty), .ref (z 2), .ref (z 3), .ref (z 4), .ref (z 5), .int (nI kn), .ref (z 6), .ref (z 7), .ref (z 8), .int (nI no), .int (nI at_), .int (nI so), .int (nI sr), .int (nI va), .ref (z 9)])), (z 4, .inl (k.1 0, 66, .inl (ta_e g))), (z 5, .inl (k.1 0, 528, .inl (ta_e pa)))] H := hP
    have hD : va_D A [(z 0, .inr (8, [.ref (z 1), .int (nI ty), .ref (z 2), .ref (z 3), .ref (z 4), .ref (z 5), .int (nI kn), .ref (z 6), .ref (z 7), .ref (z 8), .int (nI no), .int (nI at_), .int (nI so), .int (nI sr), .int (nI va), .ref (z 9)])), (z 4, .inl (k.1 0, 66, .inl (ta_e g))), (z 5, .inl (k.1 0, 528, .inl (ta_e pa)))] := hD
    obtain ⟨hn8, -⟩ := tg_ok_a hok (show a < 2 by have h9 := hi4; omega)
    refine lv_if_ne (tgt := 12) hx hb dX8_order_6 (by decide) (fun c5 => ?_) (fun c5 => ?_)
    · refine lv_iload_n hx hb dX8_order_12 rfl (lv_at hl 2 rfl) ?_
      refine ta_iconst C 0 dX8_order_13 (by decide) ?_
      refine ta_iconst C 4 dX8_order_14 (by decide) ?_
      refine ta_callSi (As := [.int (nI kd), .int (nI 0), .int (nI 4)]) (rest0 := []) (Wr := [(z 0, .inr (8, [.ref (z 1), .int (nI ty), .ref (z 2), .ref (z 3), .ref (z 4), .ref (z 5), .int (nI kn), .ref (z 6), .ref (z 7), .ref (z 8), .int (nI no), .int (nI at_), .int (nI so), .int (nI sr), .int (nI va), .ref (z 9)])), (z 4, .inl (k.1 0, 66, .inl (ta_e g))), (z 5, .inl (k.1 0, 528, .inl (ta_e pa)))]) C hP hD hS (c_X8_in_w l D k kd 0 4 (by omega) (by omega) (by omega)) [] [0, 1, 2] rfl rfl (by decide) (by decide) (by decide) tw_159 tw_157 tw_5 tw_158 ⟨by decide, by decide, rfl⟩ ⟨Nat.le_of_ble_eq_true rfl, Nat.le_of_ble_eq_true rfl⟩ ⟨Nat.zero_le _, Nat.zero_le _⟩ hl.1 rfl (Nat.le_of_ble_eq_true rfl) dX8_order_15 (fun r6 u7 H locs h8 hP hD hS => ?_)
      rcases h8 with h0 | h0
      · obtain ⟨hi9, rfl⟩ := h0
        have hP : va_P D vwCl [(z 0, .inr (8, [.ref (z 1), .int (nI ty), .ref (z 2), .ref (z 3), .ref (z 4), .ref (z 5), .int (nI kn), .ref (z 6), .ref (z 7), .ref (z 8), .int (nI no), .int (nI at_), .int (nI so), .int (nI sr), .int (nI va), .ref (z 9)])), (z 4, .inl (k.1 0, 66, .inl (ta_e g))), (z 5, .inl (k.1 0, 528, .inl (ta_e pa)))] H := hP
        have hD : va_D A [(z 0, .inr (8, [.ref (z 1), .int (nI ty), .ref (z 2), .ref (z 3), .ref (z 4), .ref (z 5), .int (nI kn), .ref (z 6), .ref (z 7), .ref (z 8), .int (nI no), .int (nI at_), .int (nI so), .int (nI sr), .int (nI va), .ref (z 9)])), (z 4, .inl (k.1 0, 66, .inl (ta_e g))), (z 5, .inl (k.1 0, 528, .inl (ta_e pa)))] := hD
        refine lv_if_eq (tgt := 31) hx hb dX8_order_18 (by decide) (fun c10 => ?_) (fun c10 => ?_)
        · exact absurd c10 (by decide)
        · refine lv_iload_n hx hb dX8_order_21 rfl (lv_at hl 3 rfl) ?_
          refine ta_iconst C 1 dX8_order_22 (by decide) ?_
          refine ta_bipush C 9 dX8_order_23 (by decide) ?_
          refine ta_callSi (As := [.int (nI mi), .int (nI 1), .int (nI 9)]) (rest0 := []) (Wr := [(z 0, .inr (8, [.ref (z 1), .int (nI ty), .ref (z 2), .ref (z 3), .ref (z 4), .ref (z 5), .int (nI kn), .ref (z 6), .ref (z 7), .ref (z 8), .int (nI no), .int (nI at_), .int (nI so), .int (nI sr), .int (nI va), .ref (z 9)])), (z 4, .inl (k.1 0, 66, .inl (ta_e g))), (z 5, .inl (k.1 0, 528, .inl (ta_e pa)))]) C hP hD hS (c_X8_in_w l D k mi 1 9 (by omega) (by omega) (by omega)) [] [0, 1, 2] rfl rfl (by decide) (by decide) (by decide) tw_159 tw_157 tw_5 tw_158 ⟨by decide, by decide, rfl⟩ ⟨Nat.le_of_ble_eq_true rfl, Nat.le_of_ble_eq_true rfl⟩ ⟨Nat.zero_le _, Nat.zero_le _⟩ hl.1 rfl (Nat.le_of_ble_eq_true rfl) dX8_order_25 (fun r11 u12 H locs h13 hP hD hS => ?_)
          rcases h13 with h0 | h0
          · obtain ⟨hi14, rfl⟩ := h0
            have hP : va_P D vwCl [(z 0, .inr (8, [.ref (z 1), .int (nI ty), .ref (z 2), .ref (z 3), .ref (z 4), .ref (z 5), .int (nI kn), .ref (z 6), .ref (z 7), .ref (z 8), .int (nI no), .int (nI at_), .int (nI so), .int (nI sr), .int (nI va), .ref (z 9)])), (z 4, .inl (k.1 0, 66, .inl (ta_e g))), (z 5, .inl (k.1 0, 528, .inl (ta_e pa)))] H := hP
            have hD : va_D A [(z 0, .inr (8, [.ref (z 1), .int (nI ty), .ref (z 2), .ref (z 3), .ref (z 4), .ref (z 5), .int (nI kn), .ref (z 6), .ref (z 7), .ref (z 8), .int (nI no), .int (nI at_), .int (nI so), .int (nI sr), .int (nI va), .ref (z 9)])), (z 4, .inl (k.1 0, 66, .inl (ta_e g))), (z 5, .inl (k.1 0, 528, .inl (ta_e pa)))] := hD
            refine lv_if_ne (tgt := 34) hx hb dX8_order_28 (by decide) (fun c15 => ?_) (fun c15 => ?_)
            · refine lv_aload_n hx hb dX8_order_34 rfl (lv_at hl 0 rfl) ?_
              refine ta_get C hP 0 inlX8 rfl rfl 4 (by decide) tw_128 rfl dX8_order_35 ?_
              refine ta_bipush C 6 dX8_order_38 (by decide) ?_
              refine lv_iload_n hx hb dX8_order_40 rfl (lv_at hl 1 rfl) ?_
              refine ta_iadd C (a := 6) (b := a) dX8_order_41 ?_
              refine ta_iald C hP 1 rfl (i := 6 + a) (by omega) dX8_order_42 ?_
              refine ta_bipush C 8 dX8_order_43 (by decide) ?_
              refine ta_cne C (a := g (6 + a)) (b := 8) (tgt := 51) (by omega) (by omega) dX8_order_45 (by decide) (fun c16 => ?_) (fun c16 => ?_)
              · refine lv_aload_n hx hb dX8_order_51 rfl (lv_at hl 0 rfl) ?_
                refine ta_callVv (As := []) (rest0 := []) (Wr := []) C hP hD hS (c_X8_keepsA l D k z ty kn no at_ so sr va g pa (by omega)) 0 rfl rfl rfl [0, 1, 2] [] rfl rfl (by decide) (by decide) (by decide) tw_477 tw_474 tw_5 tw_475 tw_476 ⟨by decide, by decide, rfl⟩ ⟨Nat.le_of_ble_eq_true rfl, Nat.le_of_ble_eq_true rfl⟩ ⟨Nat.zero_le _, Nat.zero_le _⟩ hl.1 rfl (Nat.le_of_ble_eq_true rfl) dX8_order_52 (fun u18 H locs h19 hP hD hS => ?_)
                have hP : va_P D vwCl [(z 0, .inr (8, [.ref (z 1), .int (nI ty), .ref (z 2), .ref (z 3), .ref (z 4), .ref (z 5), .int (nI (sp_n kn)), .ref (z 6), .ref (z 7), .ref (z 8), .int (nI no), .int (nI at_), .int (nI so), .int (nI sr), .int (nI va), .ref (z 9)])), (z 4, .inl (k.1 0, 66, .inl (ta_e g))), (z 5, .inl (k.1 0, 528, .inl (ta_e (mo_pa kn pa g))))] H := hP
                have hD : va_D A [(z 0, .inr (8, [.ref (z 1), .int (nI ty), .ref (z 2), .ref (z 3), .ref (z 4), .ref (z 5), .int (nI (sp_n kn)), .ref (z 6), .ref (z 7), .ref (z 8), .int (nI no), .int (nI at_), .int (nI so), .int (nI sr), .int (nI va), .ref (z 9)])), (z 4, .inl (k.1 0, 66, .inl (ta_e g))), (z 5, .inl (k.1 0, 528, .inl (ta_e (mo_pa kn pa g))))] := hD
                refine lv_aload_n hx hb dX8_order_55 rfl (lv_at hl 0 rfl) ?_
                refine lv_iload_n hx hb dX8_order_56 rfl (lv_at hl 1 rfl) ?_
                refine ta_bipush C 10 dX8_order_57 (by decide) ?_
                refine lv_iload_n hx hb dX8_order_59 rfl (lv_at hl 2 rfl) ?_
                refine ta_imul C (a := 10) (b := kd) dX8_order_60 ?_
                refine lv_iload_n hx hb dX8_order_61 rfl (lv_at hl 3 rfl) ?_
                refine ta_iadd C (a := 10 * kd) (b := mi) dX8_order_62 ?_
                refine ta_callVv (As := [.int (nI a), .int (nI ((10 * kd) + mi))]) (rest0 := []) (Wr := [(z 5, .inl (k.1 0, 528, .inl (ta_e (mo_pa kn pa g))))]) C hP hD hS (c_X8_orders l D k z ty (sp_n kn) no at_ so sr va g a ((10 * kd) + mi) (by omega) (by omega)) 0 rfl rfl rfl [0, 1] [2] rfl rfl (by decide) (by decide) (by decide) tw_506 tw_503 tw_5 tw_504 tw_505 ⟨by decide, by decide, rfl⟩ ⟨Nat.le_of_ble_eq_true rfl, Nat.le_of_ble_eq_true rfl⟩ ⟨Nat.zero_le _, Nat.zero_le _⟩ hl.1 rfl (Nat.le_of_ble_eq_true rfl) dX8_order_63 (fun u21 H locs h22 hP hD hS => ?_)
                have hP : va_P D vwCl [(z 5, .inl (k.1 0, 528, .inl (ta_e (mo_pa kn pa g)))), (z 0, .inr (8, [.ref (z 1), .int (nI ty), .ref (z 2), .ref (z 3), .ref (z 4), .ref (z 5), .int (nI (sp_n kn)), .ref (z 6), .ref (z 7), .ref (z 8), .int (nI no), .int (nI at_), .int (nI so), .int (nI sr), .int (nI va), .ref (z 9)])), (z 4, .inl (k.1 0, 66, .inl (ta_e (tg_ord g a ((10 * kd) + mi)))))] H := hP
                have hD : va_D A [(z 5, .inl (k.1 0, 528, .inl (ta_e (mo_pa kn pa g)))), (z 0, .inr (8, [.ref (z 1), .int (nI ty), .ref (z 2), .ref (z 3), .ref (z 4), .ref (z 5), .int (nI (sp_n kn)), .ref (z 6), .ref (z 7), .ref (z 8), .int (nI no), .int (nI at_), .int (nI so), .int (nI sr), .int (nI va), .ref (z 9)])), (z 4, .inl (k.1 0, 66, .inl (ta_e (tg_ord g a ((10 * kd) + mi)))))] := hD
                refine lv_aload_n hx hb dX8_order_66 rfl (lv_at hl 0 rfl) ?_
                refine ta_get C hP 1 inlX8 rfl rfl 4 (by decide) tw_128 rfl dX8_order_67 ?_
                refine ta_bipush C 6 dX8_order_70 (by decide) ?_
                refine lv_iload_n hx hb dX8_order_72 rfl (lv_at hl 1 rfl) ?_
                refine ta_iadd C (a := 6) (b := a) dX8_order_73 ?_
                refine ta_iald C hP 2 rfl (i := 6 + a) (by omega) dX8_order_74 ?_
                refine ta_nv (y := g (6 + a) + 1) ta_us ?_
                have hP : va_P D vwCl [(z 0, .inr (8, [.ref (z 1), .int (nI ty), .ref (z 2), .ref (z 3), .ref (z 4), .ref (z 5), .int (nI (sp_n kn)), .ref (z 6), .ref (z 7), .ref (z 8), .int (nI no), .int (nI at_), .int (nI so), .int (nI sr), .int (nI va), .ref (z 9)])), (z 4, .inl (k.1 0, 66, .inl (ta_e (tg_ord g a ((10 * kd) + mi))))), (z 5, .inl (k.1 0, 528, .inl (ta_e (mo_pa kn pa g))))] H := hP.sub [1, 2, 0] rfl
                have hD : va_D A [(z 0, .inr (8, [.ref (z 1), .int (nI ty), .ref (z 2), .ref (z 3), .ref (z 4), .ref (z 5), .int (nI (sp_n kn)), .ref (z 6), .ref (z 7), .ref (z 8), .int (nI no), .int (nI at_), .int (nI so), .int (nI sr), .int (nI va), .ref (z 9)])), (z 4, .inl (k.1 0, 66, .inl (ta_e (tg_ord g a ((10 * kd) + mi))))), (z 5, .inl (k.1 0, 528, .inl (ta_e (mo_pa kn pa g))))] := hD.sub [1, 2, 0] (by decide) rfl
                have hcd : (sp_order_c g a kd mi) := by unfold sp_order_c; omega
                simp only [cl_p hcd] at ret
                have e1 : sp_order g a kd mi = g (6 + a) + 1 := by
                  unfold sp_order
                  (repeat' split) <;> omega
                exact ret _ () dX8_order_75 rfl (by rw [e1]) hP hD hS
              · refine ta_bipush C 4294967291 dX8_order_48 (by decide) ?_
                have hcd : ¬ (sp_order_c g a kd mi) := by unfold sp_order_c; omega
                simp only [cl_n hcd] at ret
                have e1 : sp_order g a kd mi = 4294967291 := by
                  unfold sp_order
                  (repeat' split) <;> omega
                exact ret _ () dX8_order_50 rfl (by rw [e1]) hP hD hS
            · exact absurd c15 (by decide)
          · obtain ⟨hi23, rfl⟩ := h0
            have hP : va_P D vwCl [(z 0, .inr (8, [.ref (z 1), .int (nI ty), .ref (z 2), .ref (z 3), .ref (z 4), .ref (z 5), .int (nI kn), .ref (z 6), .ref (z 7), .ref (z 8), .int (nI no), .int (nI at_), .int (nI so), .int (nI sr), .int (nI va), .ref (z 9)])), (z 4, .inl (k.1 0, 66, .inl (ta_e g))), (z 5, .inl (k.1 0, 528, .inl (ta_e pa)))] H := hP
            have hD : va_D A [(z 0, .inr (8, [.ref (z 1), .int (nI ty), .ref (z 2), .ref (z 3), .ref (z 4), .ref (z 5), .int (nI kn), .ref (z 6), .ref (z 7), .ref (z 8), .int (nI no), .int (nI at_), .int (nI so), .int (nI sr), .int (nI va), .ref (z 9)])), (z 4, .inl (k.1 0, 66, .inl (ta_e g))), (z 5, .inl (k.1 0, 528, .inl (ta_e pa)))] := hD
            refine lv_if_ne (tgt := 34) hx hb dX8_order_28 (by decide) (fun c24 => ?_) (fun c24 => ?_)
            · exact absurd c24 (by decide)
            · refine ta_bipush C 4294967293 dX8_order_31 (by decide) ?_
              have hcd : ¬ (sp_order_c g a kd mi) := by unfold sp_order_c; omega
              simp only [cl_n hcd] at ret
              have e1 : sp_order g a kd mi = 4294967293 := by
                unfold sp_order
                (repeat' split) <;> omega
              exact ret _ () dX8_order_33 rfl (by rw [e1]) hP hD hS
      · obtain ⟨hi25, rfl⟩ := h0
        have hP : va_P D vwCl [(z 0, .inr (8, [.ref (z 1), .int (nI ty), .ref (z 2), .ref (z 3), .ref (z 4), .ref (z 5), .int (nI kn), .ref (z 6), .ref (z 7), .ref (z 8), .int (nI no), .int (nI at_), .int (nI so), .int (nI sr), .int (nI va), .ref (z 9)])), (z 4, .inl (k.1 0, 66, .inl (ta_e g))), (z 5, .inl (k.1 0, 528, .inl (ta_e pa)))] H := hP
        have hD : va_D A [(z 0, .inr (8, [.ref (z 1), .int (nI ty), .ref (z 2), .ref (z 3), .ref (z 4), .ref (z 5), .int (nI kn), .ref (z 6), .ref (z 7), .ref (z 8), .int (nI no), .int (nI at_), .int (nI so), .int (nI sr), .int (nI va), .ref (z 9)])), (z 4, .inl (k.1 0, 66, .inl (ta_e g))), (z 5, .inl (k.1 0, 528, .inl (ta_e pa)))] := hD
        refine lv_if_eq (tgt := 31) hx hb dX8_order_18 (by decide) (fun c26 => ?_) (fun c26 => ?_)
        · refine ta_bipush C 4294967293 dX8_order_31 (by decide) ?_
          have hcd : ¬ (sp_order_c g a kd mi) := by unfold sp_order_c; omega
          simp only [cl_n hcd] at ret
          have e1 : sp_order g a kd mi = 4294967293 := by
            unfold sp_order
            (repeat' split) <;> omega
          exact ret _ () dX8_order_33 rfl (by rw [e1]) hP hD hS
        · exact absurd c26 (by decide)
    · exact absurd c5 (by decide)
  · obtain ⟨hi27, rfl⟩ := h0
    have hP : va_P D vwCl [(z 0, .inr (8, [.ref (z 1), .int (nI ty), .ref (z 2), .ref (z 3), .ref (z 4), .ref (z 5), .int (nI kn), .ref (z 6), .ref (z 7), .ref (z 8), .int (nI no), .int (nI at_), .int (nI so), .int (nI sr), .int (nI va), .ref (z 9)])), (z 4, .inl (k.1 0, 66, .inl (ta_e g))), (z 5, .inl (k.1 0, 528, .inl (ta_e pa)))] H := hP
    have hD : va_D A [(z 0, .inr (8, [.ref (z 1), .int (nI ty), .ref (z 2), .ref (z 3), .ref (z 4), .ref (z 5), .int (nI kn), .ref (z 6), .ref (z 7), .ref (z 8), .int (nI no), .int (nI at_), .int (nI so), .int (nI sr), .int (nI va), .ref (z 9)])), (z 4, .inl (k.1 0, 66, .inl (ta_e g))), (z 5, .inl (k.1 0, 528, .inl (ta_e pa)))] := hD
    refine lv_if_ne (tgt := 12) hx hb dX8_order_6 (by decide) (fun c28 => ?_) (fun c28 => ?_)
    · exact absurd c28 (by decide)
    · refine ta_bipush C 4294967294 dX8_order_9 (by decide) ?_
      have hcd : ¬ (sp_order_c g a kd mi) := by unfold sp_order_c; omega
      simp only [cl_n hcd] at ret
      have e1 : sp_order g a kd mi = 4294967294 := by
        unfold sp_order
        (repeat' split) <;> omega
      exact ret _ () dX8_order_11 rfl (by rw [e1]) hP hD hS

set_option maxHeartbeats 4000000 in
set_option maxRecDepth 100000 in
theorem c_X8_undo (l : Launch) (D : va_G) (k : ta_C) (z : Nat → Nat) (ty : Nat) (kn : Nat) (no : Nat) (at_ : Nat) (so : Nat) (sr : Nat) (va : Nat) (g : Nat → Nat) (pa : Nat → Nat) (G : Nat → Nat → Nat) (hkn : kn ≤ 8) (hG : mo_P pa kn G) : ta_Mi (S := Unit) l D k yX8_undo cX8_undo 2 .int 0 0 [.ref (z 0)] [(z 0, .inr (8, [.ref (z 1), .int (nI ty), .ref (z 2), .ref (z 3), .ref (z 4), .ref (z 5), .int (nI kn), .ref (z 6), .ref (z 7), .ref (z 8), .int (nI no), .int (nI at_), .int (nI so), .int (nI sr), .int (nI va), .ref (z 9)])), (z 4, .inl (k.1 0, 66, .inl (ta_e g))), (z 5, .inl (k.1 0, 528, .inl (ta_e pa)))] (fun r _ => r = nI (sp_undo kn)) (fun u => [(z 0, .inr (8, [.ref (z 1), .int (nI ty), .ref (z 2), .ref (z 3), .ref (z 4), .ref (z 5), .int (nI (kn - 1)), .ref (z 6), .ref (z 7), .ref (z 8), .int (nI no), .int (nI at_), .int (nI so), .int (nI sr), .int (nI va), .ref (z 9)])), (z 4, .inl (k.1 0, 66, .inl (ta_e (cl_if (kn = 0) (g) (G (kn - 1)))))), (z 5, .inl (k.1 0, 528, .inl (ta_e pa)))]) := by
  refine ta_enter_i (by decide) (Nat.le_of_ble_eq_true rfl) ?_
  intro p e s m below meth c A ls Q C ret hP hD hS hl
  have C : ta_At p l D k s m ([.ref (z 0)] : List Value).toArray c RX8 cX8_undo 2 A := C
  have hx := C.1.1
  have hb := C.1.2.1
  have hl : lv_has ls 2 [(0, .ref (z 0))] := hl
  obtain ⟨H, hH⟩ : ∃ H, H = s.heap := ⟨_, rfl⟩
  obtain ⟨locs, hlocs⟩ : ∃ q : List Loc, q = [] := ⟨_, rfl⟩
  have hP : va_P D vwCl [(z 0, .inr (8, [.ref (z 1), .int (nI ty), .ref (z 2), .ref (z 3), .ref (z 4), .ref (z 5), .int (nI kn), .ref (z 6), .ref (z 7), .ref (z 8), .int (nI no), .int (nI at_), .int (nI so), .int (nI sr), .int (nI va), .ref (z 9)])), (z 4, .inl (k.1 0, 66, .inl (ta_e g))), (z 5, .inl (k.1 0, 528, .inl (ta_e pa)))] H := by rw [hH]; exact hP
  have hS : va_S A s.heap H locs := by rw [hH, hlocs]; exact hS
  rw [← hlocs]
  suffices hgoal : W p l e ({ frames := 0, cells := 0, slots := 0, locals := 0 }) s m ([.ref (z 0)] : List Value).toArray below meth c H locs 0 0 Q (F0 m 0 ls []) by rw [hH] at hgoal; exact hgoal
  clear hH hlocs
  refine lv_aload_n hx hb dX8_undo_0 rfl (lv_at hl 0 rfl) ?_
  refine ta_get C hP 0 inlX8 rfl rfl 6 (by decide) tw_142 rfl dX8_undo_1 ?_
  refine ta_ine C (a := kn) (tgt := 10) (by omega) dX8_undo_4 (by decide) (fun c1 => ?_) (fun c1 => ?_)
  · refine lv_aload_n hx hb dX8_undo_10 rfl (lv_at hl 0 rfl) ?_
    refine lv_dup hx hb dX8_undo_11 rfl ?_
    refine ta_get C hP 0 inlX8 rfl rfl 6 (by decide) tw_142 rfl dX8_undo_12 ?_
    refine ta_iconst C 1 dX8_undo_15 (by decide) ?_
    refine ta_isub C (a := kn) (b := 1) (by omega) dX8_undo_16 ?_
    refine ta_put C hP hD hS 0 inlX8 tyX8 tyX8_ok nmX8 rfl rfl 6 (by decide) tw_142 rfl rfl rfl (Nat.le_of_ble_eq_true rfl) dX8_undo_17 (fun H locs hP hD hS => ?_)
    have hP : va_P D vwCl [(z 0, .inr (8, [.ref (z 1), .int (nI ty), .ref (z 2), .ref (z 3), .ref (z 4), .ref (z 5), .int (nI (kn - 1)), .ref (z 6), .ref (z 7), .ref (z 8), .int (nI no), .int (nI at_), .int (nI so), .int (nI sr), .int (nI va), .ref (z 9)])), (z 4, .inl (k.1 0, 66, .inl (ta_e g))), (z 5, .inl (k.1 0, 528, .inl (ta_e pa)))] H := hP
    have hD : va_D A [(z 0, .inr (8, [.ref (z 1), .int (nI ty), .ref (z 2), .ref (z 3), .ref (z 4), .ref (z 5), .int (nI (kn - 1)), .ref (z 6), .ref (z 7), .ref (z 8), .int (nI no), .int (nI at_), .int (nI so), .int (nI sr), .int (nI va), .ref (z 9)])), (z 4, .inl (k.1 0, 66, .inl (ta_e g))), (z 5, .inl (k.1 0, 528, .inl (ta_e pa)))] := hD
    refine ta_iconst C 0 dX8_undo_20 (by decide) ?_
    refine lv_istore_n (lv' := [(1, .int (nI 0)), (0, .ref (z 0))]) hx hb dX8_undo_21 rfl hl (by decide) rfl (fun ls hl => ?_)
    have loop_22 : ∀ (N_22 : Nat) (i : Nat) (f2 : Nat → Nat), (i ≤ 66) → (∀ j, j < i → f2 j = pa (66 * (kn - 1) + j)) → 66 - i < N_22 → ∀ (H : Heap) (locs : List Loc) (ls : Array Slot), va_P D vwCl [(z 0, .inr (8, [.ref (z 1), .int (nI ty), .ref (z 2), .ref (z 3), .ref (z 4), .ref (z 5), .int (nI (kn - 1)), .ref (z 6), .ref (z 7), .ref (z 8), .int (nI no), .int (nI at_), .int (nI so), .int (nI sr), .int (nI va), .ref (z 9)])), (z 4, .inl (k.1 0, 66, .inl (ta_e f2))), (z 5, .inl (k.1 0, 528, .inl (ta_e pa)))] H → va_D A [(z 0, .inr (8, [.ref (z 1), .int (nI ty), .ref (z 2), .ref (z 3), .ref (z 4), .ref (z 5), .int (nI (kn - 1)), .ref (z 6), .ref (z 7), .ref (z 8), .int (nI no), .int (nI at_), .int (nI so), .int (nI sr), .int (nI va), .ref (z 9)])), (z 4, .inl (k.1 0, 66, .inl (ta_e f2))), (z 5, .inl (k.1 0, 528, .inl (ta_e pa)))] → va_S A s.heap H locs → lv_has ls 2 [(1, .int (nI i)), (0, .ref (z 0))] → W p l e ({ frames := 0, cells := 0, slots := 0, locals := 0 }) s m ([.ref (z 0)] : List Value).toArray below meth c H locs 0 0 Q (F0 m 22 ls []) := by
      clear hP hD hS hl
      intro N_22
      induction N_22 with
      | zero =>
        intro i f2 h1 h2 hf_22
        exact absurd hf_22 (Nat.not_lt_zero _)
      | succ N_22 ih_22 =>
        intro i f2 h1 h2 hf_22 H locs ls hP hD hS hl
        refine lv_iload_n hx hb dX8_undo_22 rfl (lv_at hl 0 rfl) ?_
        refine ta_bipush C 66 dX8_undo_23 (by decide) ?_
        refine ta_cge C (a := i) (b := 66) (tgt := 54) (by omega) (by omega) dX8_undo_25 (by decide) (fun c2 => ?_) (fun c2 => ?_)
        · refine lv_aload_n hx hb dX8_undo_54 rfl (lv_at hl 1 rfl) ?_
          refine ta_get C hP 0 inlX8 rfl rfl 6 (by decide) tw_142 rfl dX8_undo_55 ?_
          have e1 : sp_undo kn = kn - 1 := if_neg (by omega)
          simp only [cl_n (show ¬ kn = 0 by omega)] at ret
          have hf : ∀ j, j < 66 → f2 j = G (kn - 1) j := fun j hj => (h2 j (by omega)).trans (hG (kn - 1) (by omega) j hj)
          exact ret _ () dX8_undo_58 rfl (by rw [e1]) (ta_Pc (hP 0 _ rfl) (ta_Pc (ta_ae hf (hP 1 _ rfl)) (ta_Pc (hP 2 _ rfl) ta_Pn))) (ta_De hD rfl) hS
        · refine lv_aload_n hx hb dX8_undo_28 rfl (lv_at hl 1 rfl) ?_
          refine ta_get C hP 0 inlX8 rfl rfl 4 (by decide) tw_128 rfl dX8_undo_29 ?_
          refine lv_iload_n hx hb dX8_undo_32 rfl (lv_at hl 0 rfl) ?_
          refine lv_aload_n hx hb dX8_undo_33 rfl (lv_at hl 1 rfl) ?_
          refine ta_get C hP 0 inlX8 rfl rfl 5 (by decide) tw_129 rfl dX8_undo_34 ?_
          refine ta_bipush C 66 dX8_undo_37 (by decide) ?_
          refine lv_aload_n hx hb dX8_undo_39 rfl (lv_at hl 1 rfl) ?_
          refine ta_get C hP 0 inlX8 rfl rfl 6 (by decide) tw_142 rfl dX8_undo_40 ?_
          refine ta_imul C (a := 66) (b := kn - 1) dX8_undo_43 ?_
          refine lv_iload_n hx hb dX8_undo_44 rfl (lv_at hl 0 rfl) ?_
          refine ta_iadd C (a := 66 * (kn - 1)) (b := i) dX8_undo_45 ?_
          refine ta_iald C hP 2 rfl (i := (66 * (kn - 1)) + i) (by omega) dX8_undo_46 ?_
          refine ta_iast C hP hD hS 1 rfl (i := i) (v := pa ((66 * (kn - 1)) + i)) (by omega) dX8_undo_47 (fun H locs hP hD hS => ?_)
          have hP : va_P D vwCl [(z 0, .inr (8, [.ref (z 1), .int (nI ty), .ref (z 2), .ref (z 3), .ref (z 4), .ref (z 5), .int (nI (kn - 1)), .ref (z 6), .ref (z 7), .ref (z 8), .int (nI no), .int (nI at_), .int (nI so), .int (nI sr), .int (nI va), .ref (z 9)])), (z 4, .inl (k.1 0, 66, .inl (ta_e (ta_u f2 i (pa ((66 * (kn - 1)) + i)))))), (z 5, .inl (k.1 0, 528, .inl (ta_e pa)))] H := hP
          have hD : va_D A [(z 0, .inr (8, [.ref (z 1), .int (nI ty), .ref (z 2), .ref (z 3), .ref (z 4), .ref (z 5), .int (nI (kn - 1)), .ref (z 6), .ref (z 7), .ref (z 8), .int (nI no), .int (nI at_), .int (nI so), .int (nI sr), .int (nI va), .ref (z 9)])), (z 4, .inl (k.1 0, 66, .inl (ta_e (ta_u f2 i (pa ((66 * (kn - 1)) + i)))))), (z 5, .inl (k.1 0, 528, .inl (ta_e pa)))] := hD
          refine lv_iinc (v := nI (i + 1)) (lv' := [(1, .int (nI (i + 1))), (0, .ref (z 0))]) hx hb dX8_undo_48 hl (k := 0) rfl (ta_inc1 _) (by decide) rfl (fun ls hl => ?_)
          refine lv_goto (tgt := 22) hx hb dX8_undo_51 (by decide) ?_
          exact ih_22 (i + 1) (ta_u f2 i (pa (66 * (kn - 1) + i))) (by omega) (ta_fill (h := fun j => pa (66 * (kn - 1) + j)) h2) (by omega) _ _ _ hP hD hS (lv_sub hl [0, 1] rfl)
    exact loop_22 ((66 - 0) + 1) 0 g (by omega) (fun j hj => absurd hj (Nat.not_lt_zero j)) (Nat.lt_succ_self _) _ _ _ hP hD hS (lv_sub hl [0, 1] rfl)
  · refine ta_bipush C 4294967292 dX8_undo_7 (by decide) ?_
    have e1 : sp_undo kn = 4294967292 := if_pos (by omega)
    simp only [cl_p (show kn = 0 by omega)] at ret
    have e2 : kn - 1 = kn := by omega
    rw [e2] at ret
    exact ret _ () dX8_undo_9 rfl (by rw [e1]) hP hD hS

set_option maxHeartbeats 4000000 in
set_option maxRecDepth 100000 in
theorem c_X8_keep (l : Launch) (D : va_G) (k : ta_C) (z : Nat → Nat) (ty : Nat) (kn : Nat) (no : Nat) (at_ : Nat) (so : Nat) (sr : Nat) (va : Nat) (g : Nat → Nat) (im : Nat → Nat) (kp : Nat → Nat) (x : Nat) (wx : x < 4294967296) : ta_Mi (S := Unit) l D k yX8_keep cX8_keep 3 .int 1 40 [.ref (z 0), .int (nI x)] [(z 0, .inr (8, [.ref (z 1), .int (nI ty), .ref (z 2), .ref (z 3), .ref (z 4), .ref (z 5), .int (nI kn), .ref (z 6), .ref (z 7), .ref (z 8), .int (nI no), .int (nI at_), .int (nI so), .int (nI sr), .int (nI va), .ref (z 9)])), (z 4, .inl (k.1 0, 66, .inl (ta_e g))), (z 6, .inl (k.1 0, 132, .inl (ta_e im))), (z 7, .inl (k.1 1, 2, .inl (ta_e kp)))] (fun r _ => r = nI (sp_keep g x)) (fun u => [(z 0, .inr (8, [.ref (z 1), .int (nI ty), .ref (z 2), .ref (z 3), .ref (z 4), .ref (z 5), .int (nI kn), .ref (z 6), .ref (z 7), .ref (z 8), .int (nI no), .int (nI at_), .int (nI so), .int (nI sr), .int (nI va), .ref (z 9)])), (z 4, .inl (k.1 0, 66, .inl (ta_e g))), (z 6, .inl (k.1 0, 132, .inl (ta_e (cl_if (x < 2) (va_cpy g im 0 (66 * x) 66) (im))))), (z 7, .inl (k.1 1, 2, .inl (ta_e (cl_if (x < 2) (ta_u kp x 1) (kp)))))]) := by
  refine ta_enter_i (by decide) (Nat.le_of_ble_eq_true rfl) ?_
  intro p e s m below meth c A ls Q C ret hP hD hS hl
  have C : ta_At p l D k s m ([.ref (z 0), .int (nI x)] : List Value).toArray c RX8 cX8_keep 3 A := C
  have hx := C.1.1
  have hb := C.1.2.1
  have hl : lv_has ls 3 [(0, .ref (z 0)), (1, .int (nI x))] := hl
  obtain ⟨H, hH⟩ : ∃ H, H = s.heap := ⟨_, rfl⟩
  obtain ⟨locs, hlocs⟩ : ∃ q : List Loc, q = [] := ⟨_, rfl⟩
  have hP : va_P D vwCl [(z 0, .inr (8, [.ref (z 1), .int (nI ty), .ref (z 2), .ref (z 3), .ref (z 4), .ref (z 5), .int (nI kn), .ref (z 6), .ref (z 7), .ref (z 8), .int (nI no), .int (nI at_), .int (nI so), .int (nI sr), .int (nI va), .ref (z 9)])), (z 4, .inl (k.1 0, 66, .inl (ta_e g))), (z 6, .inl (k.1 0, 132, .inl (ta_e im))), (z 7, .inl (k.1 1, 2, .inl (ta_e kp)))] H := by rw [hH]; exact hP
  have hS : va_S A s.heap H locs := by rw [hH, hlocs]; exact hS
  rw [← hlocs]
  suffices hgoal : W p l e ({ frames := 1, cells := 0, slots := 0, locals := 40 }) s m ([.ref (z 0), .int (nI x)] : List Value).toArray below meth c H locs 0 0 Q (F0 m 0 ls []) by rw [hH] at hgoal; exact hgoal
  clear hH hlocs
  refine lv_iload_n hx hb dX8_keep_0 rfl (lv_at hl 1 rfl) ?_
  refine ta_iconst C 0 dX8_keep_1 (by decide) ?_
  refine ta_iconst C 1 dX8_keep_2 (by decide) ?_
  refine ta_callSi (As := [.int (nI x), .int (nI 0), .int (nI 1)]) (rest0 := []) (Wr := [(z 0, .inr (8, [.ref (z 1), .int (nI ty), .ref (z 2), .ref (z 3), .ref (z 4), .ref (z 5), .int (nI kn), .ref (z 6), .ref (z 7), .ref (z 8), .int (nI no), .int (nI at_), .int (nI so), .int (nI sr), .int (nI va), .ref (z 9)])), (z 4, .inl (k.1 0, 66, .inl (ta_e g))), (z 6, .inl (k.1 0, 132, .inl (ta_e im))), (z 7, .inl (k.1 1, 2, .inl (ta_e kp)))]) C hP hD hS (c_X8_in_w l D k x 0 1 (by omega) (by omega) (by omega)) [] [0, 1, 2, 3] rfl rfl (by decide) (by decide) (by decide) tw_159 tw_157 tw_5 tw_158 ⟨by decide, by decide, rfl⟩ ⟨Nat.le_of_ble_eq_true rfl, Nat.le_of_ble_eq_true rfl⟩ ⟨Nat.zero_le _, Nat.zero_le _⟩ hl.1 rfl (Nat.le_of_ble_eq_true rfl) dX8_keep_3 (fun r1 u2 H locs h3 hP hD hS => ?_)
  rcases h3 with h0 | h0
  · obtain ⟨hi4, rfl⟩ := h0
    have hP : va_P D vwCl [(z 0, .inr (8, [.ref (z 1), .int (nI ty), .ref (z 2), .ref (z 3), .ref (z 4), .ref (z 5), .int (nI kn), .ref (z 6), .ref (z 7), .ref (z 8), .int (nI no), .int (nI at_), .int (nI so), .int (nI sr), .int (nI va), .ref (z 9)])), (z 4, .inl (k.1 0, 66, .inl (ta_e g))), (z 6, .inl (k.1 0, 132, .inl (ta_e im))), (z 7, .inl (k.1 1, 2, .inl (ta_e kp)))] H := hP
    have hD : va_D A [(z 0, .inr (8, [.ref (z 1), .int (nI ty), .ref (z 2), .ref (z 3), .ref (z 4), .ref (z 5), .int (nI kn), .ref (z 6), .ref (z 7), .ref (z 8), .int (nI no), .int (nI at_), .int (nI so), .int (nI sr), .int (nI va), .ref (z 9)])), (z 4, .inl (k.1 0, 66, .inl (ta_e g))), (z 6, .inl (k.1 0, 132, .inl (ta_e im))), (z 7, .inl (k.1 1, 2, .inl (ta_e kp)))] := hD
    refine lv_if_ne (tgt := 12) hx hb dX8_keep_6 (by decide) (fun c5 => ?_) (fun c5 => ?_)
    · refine ta_iconst C 0 dX8_keep_12 (by decide) ?_
      refine lv_istore_n (lv' := [(2, .int (nI 0)), (0, .ref (z 0)), (1, .int (nI x))]) hx hb dX8_keep_13 rfl hl (by decide) rfl (fun ls hl => ?_)
      have loop_14 : ∀ (N_14 : Nat) (i : Nat) (f2 : Nat → Nat), (i ≤ 66) → (x < 2) → (f2 = va_cpy g im 0 (66 * x) i) → 66 - i < N_14 → ∀ (H : Heap) (locs : List Loc) (ls : Array Slot), va_P D vwCl [(z 0, .inr (8, [.ref (z 1), .int (nI ty), .ref (z 2), .ref (z 3), .ref (z 4), .ref (z 5), .int (nI kn), .ref (z 6), .ref (z 7), .ref (z 8), .int (nI no), .int (nI at_), .int (nI so), .int (nI sr), .int (nI va), .ref (z 9)])), (z 4, .inl (k.1 0, 66, .inl (ta_e g))), (z 6, .inl (k.1 0, 132, .inl (ta_e f2))), (z 7, .inl (k.1 1, 2, .inl (ta_e kp)))] H → va_D A [(z 0, .inr (8, [.ref (z 1), .int (nI ty), .ref (z 2), .ref (z 3), .ref (z 4), .ref (z 5), .int (nI kn), .ref (z 6), .ref (z 7), .ref (z 8), .int (nI no), .int (nI at_), .int (nI so), .int (nI sr), .int (nI va), .ref (z 9)])), (z 4, .inl (k.1 0, 66, .inl (ta_e g))), (z 6, .inl (k.1 0, 132, .inl (ta_e f2))), (z 7, .inl (k.1 1, 2, .inl (ta_e kp)))] → va_S A s.heap H locs → lv_has ls 3 [(2, .int (nI i)), (0, .ref (z 0)), (1, .int (nI x))] → W p l e ({ frames := 1, cells := 0, slots := 0, locals := 40 }) s m ([.ref (z 0), .int (nI x)] : List Value).toArray below meth c H locs 0 0 Q (F0 m 14 ls []) := by
        clear hP hD hS hl
        intro N_14
        induction N_14 with
        | zero =>
          intro i f2 h1 hx2 h2 hf_14
          exact absurd hf_14 (Nat.not_lt_zero _)
        | succ N_14 ih_14 =>
          intro i f2 h1 hx2 h2 hf_14 H locs ls hP hD hS hl
          refine lv_iload_n hx hb dX8_keep_14 rfl (lv_at hl 0 rfl) ?_
          refine ta_bipush C 66 dX8_keep_15 (by decide) ?_
          refine ta_cge C (a := i) (b := 66) (tgt := 43) (by omega) (by omega) dX8_keep_17 (by decide) (fun c6 => ?_) (fun c6 => ?_)
          · refine lv_aload_n hx hb dX8_keep_43 rfl (lv_at hl 1 rfl) ?_
            refine ta_get C hP 0 inlX8 rfl rfl 8 (by decide) tw_131 rfl dX8_keep_44 ?_
            refine lv_iload_n hx hb dX8_keep_47 rfl (lv_at hl 2 rfl) ?_
            refine ta_iconst C 1 dX8_keep_48 (by decide) ?_
            refine ta_zast C hP hD hS 3 rfl (i := x) (v := 1) (by omega) (by decide) dX8_keep_49 (fun H locs hP hD hS => ?_)
            have hP : va_P D vwCl [(z 0, .inr (8, [.ref (z 1), .int (nI ty), .ref (z 2), .ref (z 3), .ref (z 4), .ref (z 5), .int (nI kn), .ref (z 6), .ref (z 7), .ref (z 8), .int (nI no), .int (nI at_), .int (nI so), .int (nI sr), .int (nI va), .ref (z 9)])), (z 4, .inl (k.1 0, 66, .inl (ta_e g))), (z 6, .inl (k.1 0, 132, .inl (ta_e f2))), (z 7, .inl (k.1 1, 2, .inl (ta_e (ta_u kp x 1))))] H := hP
            have hD : va_D A [(z 0, .inr (8, [.ref (z 1), .int (nI ty), .ref (z 2), .ref (z 3), .ref (z 4), .ref (z 5), .int (nI kn), .ref (z 6), .ref (z 7), .ref (z 8), .int (nI no), .int (nI at_), .int (nI so), .int (nI sr), .int (nI va), .ref (z 9)])), (z 4, .inl (k.1 0, 66, .inl (ta_e g))), (z 6, .inl (k.1 0, 132, .inl (ta_e f2))), (z 7, .inl (k.1 1, 2, .inl (ta_e (ta_u kp x 1))))] := hD
            refine lv_aload_n hx hb dX8_keep_50 rfl (lv_at hl 1 rfl) ?_
            refine ta_get C hP 0 inlX8 rfl rfl 4 (by decide) tw_128 rfl dX8_keep_51 ?_
            refine ta_iconst C 0 dX8_keep_54 (by decide) ?_
            refine ta_iald C hP 1 rfl (i := 0) (by omega) dX8_keep_55 ?_
            rw [h2, show i = 66 by omega] at hP hD
            have hcd : (x < 2) := by omega
            simp only [cl_p hcd] at ret
            have e1 : sp_keep g x = g 0 := by
              unfold sp_keep
              (repeat' split) <;> omega
            exact ret _ () dX8_keep_56 rfl (by rw [e1]) hP hD hS
          · refine lv_aload_n hx hb dX8_keep_20 rfl (lv_at hl 1 rfl) ?_
            refine ta_get C hP 0 inlX8 rfl rfl 7 (by decide) tw_130 rfl dX8_keep_21 ?_
            refine ta_bipush C 66 dX8_keep_24 (by decide) ?_
            refine lv_iload_n hx hb dX8_keep_26 rfl (lv_at hl 2 rfl) ?_
            refine ta_imul C (a := 66) (b := x) dX8_keep_27 ?_
            refine lv_iload_n hx hb dX8_keep_28 rfl (lv_at hl 0 rfl) ?_
            refine ta_iadd C (a := 66 * x) (b := i) dX8_keep_29 ?_
            refine lv_aload_n hx hb dX8_keep_30 rfl (lv_at hl 1 rfl) ?_
            refine ta_get C hP 0 inlX8 rfl rfl 4 (by decide) tw_128 rfl dX8_keep_31 ?_
            refine lv_iload_n hx hb dX8_keep_34 rfl (lv_at hl 0 rfl) ?_
            refine ta_iald C hP 1 rfl (i := i) (by omega) dX8_keep_35 ?_
            refine ta_iast C hP hD hS 2 rfl (i := (66 * x) + i) (v := g i) (by omega) dX8_keep_36 (fun H locs hP hD hS => ?_)
            have hP : va_P D vwCl [(z 0, .inr (8, [.ref (z 1), .int (nI ty), .ref (z 2), .ref (z 3), .ref (z 4), .ref (z 5), .int (nI kn), .ref (z 6), .ref (z 7), .ref (z 8), .int (nI no), .int (nI at_), .int (nI so), .int (nI sr), .int (nI va), .ref (z 9)])), (z 4, .inl (k.1 0, 66, .inl (ta_e g))), (z 6, .inl (k.1 0, 132, .inl (ta_e (ta_u f2 ((66 * x) + i) (g i))))), (z 7, .inl (k.1 1, 2, .inl (ta_e kp)))] H := hP
            have hD : va_D A [(z 0, .inr (8, [.ref (z 1), .int (nI ty), .ref (z 2), .ref (z 3), .ref (z 4), .ref (z 5), .int (nI kn), .ref (z 6), .ref (z 7), .ref (z 8), .int (nI no), .int (nI at_), .int (nI so), .int (nI sr), .int (nI va), .ref (z 9)])), (z 4, .inl (k.1 0, 66, .inl (ta_e g))), (z 6, .inl (k.1 0, 132, .inl (ta_e (ta_u f2 ((66 * x) + i) (g i))))), (z 7, .inl (k.1 1, 2, .inl (ta_e kp)))] := hD
            refine lv_iinc (v := nI (i + 1)) (lv' := [(2, .int (nI (i + 1))), (0, .ref (z 0)), (1, .int (nI x))]) hx hb dX8_keep_37 hl (k := 0) rfl (ta_inc1 _) (by decide) rfl (fun ls hl => ?_)
            refine lv_goto (tgt := 14) hx hb dX8_keep_40 (by decide) ?_
            exact ih_14 (i + 1) (ta_u f2 (66 * x + i) (g i)) (by omega) (by omega) (by rw [h2]; exact ta_cps) (by omega) _ _ _ hP hD hS (lv_sub hl [0, 1, 2] rfl)
      exact loop_14 ((66 - 0) + 1) 0 im (by omega) (by omega) (ta_cp0 _ _ _ _).symm (Nat.lt_succ_self _) _ _ _ hP hD hS (lv_sub hl [0, 1, 2] rfl)
    · exact absurd c5 (by decide)
  · obtain ⟨hi7, rfl⟩ := h0
    have hP : va_P D vwCl [(z 0, .inr (8, [.ref (z 1), .int (nI ty), .ref (z 2), .ref (z 3), .ref (z 4), .ref (z 5), .int (nI kn), .ref (z 6), .ref (z 7), .ref (z 8), .int (nI no), .int (nI at_), .int (nI so), .int (nI sr), .int (nI va), .ref (z 9)])), (z 4, .inl (k.1 0, 66, .inl (ta_e g))), (z 6, .inl (k.1 0, 132, .inl (ta_e im))), (z 7, .inl (k.1 1, 2, .inl (ta_e kp)))] H := hP
    have hD : va_D A [(z 0, .inr (8, [.ref (z 1), .int (nI ty), .ref (z 2), .ref (z 3), .ref (z 4), .ref (z 5), .int (nI kn), .ref (z 6), .ref (z 7), .ref (z 8), .int (nI no), .int (nI at_), .int (nI so), .int (nI sr), .int (nI va), .ref (z 9)])), (z 4, .inl (k.1 0, 66, .inl (ta_e g))), (z 6, .inl (k.1 0, 132, .inl (ta_e im))), (z 7, .inl (k.1 1, 2, .inl (ta_e kp)))] := hD
    refine lv_if_ne (tgt := 12) hx hb dX8_keep_6 (by decide) (fun c8 => ?_) (fun c8 => ?_)
    · exact absurd c8 (by decide)
    · refine ta_bipush C 4294967294 dX8_keep_9 (by decide) ?_
      have hcd : ¬ (x < 2) := by omega
      simp only [cl_n hcd] at ret
      have e1 : sp_keep g x = 4294967294 := by
        unfold sp_keep
        (repeat' split) <;> omega
      exact ret _ () dX8_keep_11 rfl (by rw [e1]) hP hD hS

set_option maxHeartbeats 4000000 in
set_option maxRecDepth 100000 in
theorem c_X8_back (l : Launch) (D : va_G) (k : ta_C) (z : Nat → Nat) (ty : Nat) (kn : Nat) (no : Nat) (at_ : Nat) (so : Nat) (sr : Nat) (va : Nat) (g : Nat → Nat) (im : Nat → Nat) (kp : Nat → Nat) (K : Nat → Nat → Nat) (x : Nat) (hkp : ∀ i, i < 2 → kp i ≤ 1) (hK : mo_K im kp K) (wx : x < 4294967296) : ta_Mi (S := Unit) l D k yX8_back cX8_back 3 .int 1 40 [.ref (z 0), .int (nI x)] [(z 0, .inr (8, [.ref (z 1), .int (nI ty), .ref (z 2), .ref (z 3), .ref (z 4), .ref (z 5), .int (nI kn), .ref (z 6), .ref (z 7), .ref (z 8), .int (nI no), .int (nI at_), .int (nI so), .int (nI sr), .int (nI va), .ref (z 9)])), (z 4, .inl (k.1 0, 66, .inl (ta_e g))), (z 6, .inl (k.1 0, 132, .inl (ta_e im))), (z 7, .inl (k.1 1, 2, .inl (ta_e kp)))] (fun r _ => r = nI (sp_back kp K x)) (fun u => [(z 0, .inr (8, [.ref (z 1), .int (nI ty), .ref (z 2), .ref (z 3), .ref (z 4), .ref (z 5), .int (nI (cl_if (sp_back_c kp x) (0) (kn))), .ref (z 6), .ref (z 7), .ref (z 8), .int (nI no), .int (nI at_), .int (nI so), .int (nI sr), .int (nI va), .ref (z 9)])), (z 4, .inl (k.1 0, 66, .inl (ta_e (cl_if (sp_back_c kp x) (K x) (g))))), (z 6, .inl (k.1 0, 132, .inl (ta_e im))), (z 7, .inl (k.1 1, 2, .inl (ta_e kp)))]) := by
  refine ta_enter_i (by decide) (Nat.le_of_ble_eq_true rfl) ?_
  intro p e s m below meth c A ls Q C ret hP hD hS hl
  have C : ta_At p l D k s m ([.ref (z 0), .int (nI x)] : List Value).toArray c RX8 cX8_back 3 A := C
  have hx := C.1.1
  have hb := C.1.2.1
  have hl : lv_has ls 3 [(0, .ref (z 0)), (1, .int (nI x))] := hl
  obtain ⟨H, hH⟩ : ∃ H, H = s.heap := ⟨_, rfl⟩
  obtain ⟨locs, hlocs⟩ : ∃ q : List Loc, q = [] := ⟨_, rfl⟩
  have hP : va_P D vwCl [(z 0, .inr (8, [.ref (z 1), .int (nI ty), .ref (z 2), .ref (z 3), .ref (z 4), .ref (z 5), .int (nI kn), .ref (z 6), .ref (z 7), .ref (z 8), .int (nI no), .int (nI at_), .int (nI so), .int (nI sr), .int (nI va), .ref (z 9)])), (z 4, .inl (k.1 0, 66, .inl (ta_e g))), (z 6, .inl (k.1 0, 132, .inl (ta_e im))), (z 7, .inl (k.1 1, 2, .inl (ta_e kp)))] H := by rw [hH]; exact hP
  have hS : va_S A s.heap H locs := by rw [hH, hlocs]; exact hS
  rw [← hlocs]
  suffices hgoal : W p l e ({ frames := 1, cells := 0, slots := 0, locals := 40 }) s m ([.ref (z 0), .int (nI x)] : List Value).toArray below meth c H locs 0 0 Q (F0 m 0 ls []) by rw [hH] at hgoal; exact hgoal
  clear hH hlocs
  refine lv_iload_n hx hb dX8_back_0 rfl (lv_at hl 1 rfl) ?_
  refine ta_iconst C 0 dX8_back_1 (by decide) ?_
  refine ta_iconst C 1 dX8_back_2 (by decide) ?_
  refine ta_callSi (As := [.int (nI x), .int (nI 0), .int (nI 1)]) (rest0 := []) (Wr := [(z 0, .inr (8, [.ref (z 1), .int (nI ty), .ref (z 2), .ref (z 3), .ref (z 4), .ref (z 5), .int (nI kn), .ref (z 6), .ref (z 7), .ref (z 8), .int (nI no), .int (nI at_), .int (nI so), .int (nI sr), .int (nI va), .ref (z 9)])), (z 4, .inl (k.1 0, 66, .inl (ta_e g))), (z 6, .inl (k.1 0, 132, .inl (ta_e im))), (z 7, .inl (k.1 1, 2, .inl (ta_e kp)))]) C hP hD hS (c_X8_in_w l D k x 0 1 (by omega) (by omega) (by omega)) [] [0, 1, 2, 3] rfl rfl (by decide) (by decide) (by decide) tw_159 tw_157 tw_5 tw_158 ⟨by decide, by decide, rfl⟩ ⟨Nat.le_of_ble_eq_true rfl, Nat.le_of_ble_eq_true rfl⟩ ⟨Nat.zero_le _, Nat.zero_le _⟩ hl.1 rfl (Nat.le_of_ble_eq_true rfl) dX8_back_3 (fun r1 u2 H locs h3 hP hD hS => ?_)
  rcases h3 with h0 | h0
  · obtain ⟨hi4, rfl⟩ := h0
    have hP : va_P D vwCl [(z 0, .inr (8, [.ref (z 1), .int (nI ty), .ref (z 2), .ref (z 3), .ref (z 4), .ref (z 5), .int (nI kn), .ref (z 6), .ref (z 7), .ref (z 8), .int (nI no), .int (nI at_), .int (nI so), .int (nI sr), .int (nI va), .ref (z 9)])), (z 4, .inl (k.1 0, 66, .inl (ta_e g))), (z 6, .inl (k.1 0, 132, .inl (ta_e im))), (z 7, .inl (k.1 1, 2, .inl (ta_e kp)))] H := hP
    have hD : va_D A [(z 0, .inr (8, [.ref (z 1), .int (nI ty), .ref (z 2), .ref (z 3), .ref (z 4), .ref (z 5), .int (nI kn), .ref (z 6), .ref (z 7), .ref (z 8), .int (nI no), .int (nI at_), .int (nI so), .int (nI sr), .int (nI va), .ref (z 9)])), (z 4, .inl (k.1 0, 66, .inl (ta_e g))), (z 6, .inl (k.1 0, 132, .inl (ta_e im))), (z 7, .inl (k.1 1, 2, .inl (ta_e kp)))] := hD
    have hkx := hkp x (by have h9 := hi4; omega)
    refine lv_if_ne (tgt := 12) hx hb dX8_back_6 (by decide) (fun c5 => ?_) (fun c5 => ?_)
    · refine lv_aload_n hx hb dX8_back_12 rfl (lv_at hl 0 rfl) ?_
      refine ta_get C hP 0 inlX8 rfl rfl 8 (by decide) tw_131 rfl dX8_back_13 ?_
      refine lv_iload_n hx hb dX8_back_16 rfl (lv_at hl 1 rfl) ?_
      refine ta_zald C hP 3 rfl (i := x) (by omega) dX8_back_17 ?_
      refine ta_ine C (a := kp x) (tgt := 24) (by omega) dX8_back_18 (by decide) (fun c6 => ?_) (fun c6 => ?_)
      · refine ta_iconst C 0 dX8_back_24 (by decide) ?_
        refine lv_istore_n (lv' := [(2, .int (nI 0)), (0, .ref (z 0)), (1, .int (nI x))]) hx hb dX8_back_25 rfl hl (by decide) rfl (fun ls hl => ?_)
        have loop_26 : ∀ (N_26 : Nat) (i : Nat) (f2 : Nat → Nat), (i ≤ 66) → (x < 2) → (kp x ≠ 0) → (∀ j, j < i → f2 j = im (66 * x + j)) → 66 - i < N_26 → ∀ (H : Heap) (locs : List Loc) (ls : Array Slot), va_P D vwCl [(z 0, .inr (8, [.ref (z 1), .int (nI ty), .ref (z 2), .ref (z 3), .ref (z 4), .ref (z 5), .int (nI kn), .ref (z 6), .ref (z 7), .ref (z 8), .int (nI no), .int (nI at_), .int (nI so), .int (nI sr), .int (nI va), .ref (z 9)])), (z 4, .inl (k.1 0, 66, .inl (ta_e f2))), (z 6, .inl (k.1 0, 132, .inl (ta_e im))), (z 7, .inl (k.1 1, 2, .inl (ta_e kp)))] H → va_D A [(z 0, .inr (8, [.ref (z 1), .int (nI ty), .ref (z 2), .ref (z 3), .ref (z 4), .ref (z 5), .int (nI kn), .ref (z 6), .ref (z 7), .ref (z 8), .int (nI no), .int (nI at_), .int (nI so), .int (nI sr), .int (nI va), .ref (z 9)])), (z 4, .inl (k.1 0, 66, .inl (ta_e f2))), (z 6, .inl (k.1 0, 132, .inl (ta_e im))), (z 7, .inl (k.1 1, 2, .inl (ta_e kp)))] → va_S A s.heap H locs → lv_has ls 3 [(2, .int (nI i)), (0, .ref (z 0)), (1, .int (nI x))] → W p l e ({ frames := 1, cells := 0, slots := 0, locals := 40 }) s m ([.ref (z 0), .int (nI x)] : List Value).toArray below meth c H locs 0 0 Q (F0 m 26 ls []) := by
          clear hP hD hS hl
          intro N_26
          induction N_26 with
          | zero =>
            intro i f2 h1 hx2 hk0 h2 hf_26
            exact absurd hf_26 (Nat.not_lt_zero _)
          | succ N_26 ih_26 =>
            intro i f2 h1 hx2 hk0 h2 hf_26 H locs ls hP hD hS hl
            refine lv_iload_n hx hb dX8_back_26 rfl (lv_at hl 0 rfl) ?_
            refine ta_bipush C 66 dX8_back_27 (by decide) ?_
            refine ta_cge C (a := i) (b := 66) (tgt := 55) (by omega) (by omega) dX8_back_29 (by decide) (fun c7 => ?_) (fun c7 => ?_)
            · refine lv_aload_n hx hb dX8_back_55 rfl (lv_at hl 1 rfl) ?_
              refine ta_iconst C 0 dX8_back_56 (by decide) ?_
              refine ta_put C hP hD hS 0 inlX8 tyX8 tyX8_ok nmX8 rfl rfl 6 (by decide) tw_142 rfl rfl rfl (Nat.le_of_ble_eq_true rfl) dX8_back_57 (fun H locs hP hD hS => ?_)
              have hP : va_P D vwCl [(z 0, .inr (8, [.ref (z 1), .int (nI ty), .ref (z 2), .ref (z 3), .ref (z 4), .ref (z 5), .int (nI 0), .ref (z 6), .ref (z 7), .ref (z 8), .int (nI no), .int (nI at_), .int (nI so), .int (nI sr), .int (nI va), .ref (z 9)])), (z 4, .inl (k.1 0, 66, .inl (ta_e f2))), (z 6, .inl (k.1 0, 132, .inl (ta_e im))), (z 7, .inl (k.1 1, 2, .inl (ta_e kp)))] H := hP
              have hD : va_D A [(z 0, .inr (8, [.ref (z 1), .int (nI ty), .ref (z 2), .ref (z 3), .ref (z 4), .ref (z 5), .int (nI 0), .ref (z 6), .ref (z 7), .ref (z 8), .int (nI no), .int (nI at_), .int (nI so), .int (nI sr), .int (nI va), .ref (z 9)])), (z 4, .inl (k.1 0, 66, .inl (ta_e f2))), (z 6, .inl (k.1 0, 132, .inl (ta_e im))), (z 7, .inl (k.1 1, 2, .inl (ta_e kp)))] := hD
              refine lv_aload_n hx hb dX8_back_60 rfl (lv_at hl 1 rfl) ?_
              refine ta_get C hP 0 inlX8 rfl rfl 4 (by decide) tw_128 rfl dX8_back_61 ?_
              refine ta_iconst C 0 dX8_back_64 (by decide) ?_
              refine ta_iald C hP 1 rfl (i := 0) (by omega) dX8_back_65 ?_
              have hcd : sp_back_c kp x := ⟨hx2, hk0⟩
              simp only [cl_p hcd] at ret
              have hf : ∀ j, j < 66 → f2 j = K x j := fun j hj => (h2 j (by omega)).trans (hK x hx2 hk0 j hj)
              have e1 : sp_back kp K x = f2 0 := by
                unfold sp_back
                rw [if_pos hx2, if_neg hk0]
                exact (hf 0 (by omega)).symm
              exact ret _ () dX8_back_66 rfl (by rw [e1]) (ta_Pc (hP 0 _ rfl) (ta_Pc (ta_ae hf (hP 1 _ rfl)) (ta_Pc (hP 2 _ rfl) (ta_Pc (hP 3 _ rfl) ta_Pn)))) (ta_De hD rfl) hS
            · refine lv_aload_n hx hb dX8_back_32 rfl (lv_at hl 1 rfl) ?_
              refine ta_get C hP 0 inlX8 rfl rfl 4 (by decide) tw_128 rfl dX8_back_33 ?_
              refine lv_iload_n hx hb dX8_back_36 rfl (lv_at hl 0 rfl) ?_
              refine lv_aload_n hx hb dX8_back_37 rfl (lv_at hl 1 rfl) ?_
              refine ta_get C hP 0 inlX8 rfl rfl 7 (by decide) tw_130 rfl dX8_back_38 ?_
              refine ta_bipush C 66 dX8_back_41 (by decide) ?_
              refine lv_iload_n hx hb dX8_back_43 rfl (lv_at hl 2 rfl) ?_
              refine ta_imul C (a := 66) (b := x) dX8_back_44 ?_
              refine lv_iload_n hx hb dX8_back_45 rfl (lv_at hl 0 rfl) ?_
              refine ta_iadd C (a := 66 * x) (b := i) dX8_back_46 ?_
              refine ta_iald C hP 2 rfl (i := (66 * x) + i) (by omega) dX8_back_47 ?_
              refine ta_iast C hP hD hS 1 rfl (i := i) (v := im ((66 * x) + i)) (by omega) dX8_back_48 (fun H locs hP hD hS => ?_)
              have hP : va_P D vwCl [(z 0, .inr (8, [.ref (z 1), .int (nI ty), .ref (z 2), .ref (z 3), .ref (z 4), .ref (z 5), .int (nI kn), .ref (z 6), .ref (z 7), .ref (z 8), .int (nI no), .int (nI at_), .int (nI so), .int (nI sr), .int (nI va), .ref (z 9)])), (z 4, .inl (k.1 0, 66, .inl (ta_e (ta_u f2 i (im ((66 * x) + i)))))), (z 6, .inl (k.1 0, 132, .inl (ta_e im))), (z 7, .inl (k.1 1, 2, .inl (ta_e kp)))] H := hP
              have hD : va_D A [(z 0, .inr (8, [.ref (z 1), .int (nI ty), .ref (z 2), .ref (z 3), .ref (z 4), .ref (z 5), .int (nI kn), .ref (z 6), .ref (z 7), .ref (z 8), .int (nI no), .int (nI at_), .int (nI so), .int (nI sr), .int (nI va), .ref (z 9)])), (z 4, .inl (k.1 0, 66, .inl (ta_e (ta_u f2 i (im ((66 * x) + i)))))), (z 6, .inl (k.1 0, 132, .inl (ta_e im))), (z 7, .inl (k.1 1, 2, .inl (ta_e kp)))] := hD
              refine lv_iinc (v := nI (i + 1)) (lv' := [(2, .int (nI (i + 1))), (0, .ref (z 0)), (1, .int (nI x))]) hx hb dX8_back_49 hl (k := 0) rfl (ta_inc1 _) (by decide) rfl (fun ls hl => ?_)
              refine lv_goto (tgt := 26) hx hb dX8_back_52 (by decide) ?_
              exact ih_26 (i + 1) (ta_u f2 i (im (66 * x + i))) (by omega) (by omega) (by omega) (ta_fill (h := fun j => im (66 * x + j)) h2) (by omega) _ _ _ hP hD hS (lv_sub hl [0, 1, 2] rfl)
        exact loop_26 ((66 - 0) + 1) 0 g (by omega) (by omega) (by omega) (fun j hj => absurd hj (Nat.not_lt_zero j)) (Nat.lt_succ_self _) _ _ _ hP hD hS (lv_sub hl [0, 1, 2] rfl)
      · refine ta_bipush C 4294967292 dX8_back_21 (by decide) ?_
        have hcd : ¬ sp_back_c kp x := by unfold sp_back_c; omega
        simp only [cl_n hcd] at ret
        have e1 : sp_back kp K x = 4294967292 := by
          unfold sp_back
          (repeat' split) <;> omega
        exact ret _ () dX8_back_23 rfl (by rw [e1]) hP hD hS
    · exact absurd c5 (by decide)
  · obtain ⟨hi8, rfl⟩ := h0
    have hP : va_P D vwCl [(z 0, .inr (8, [.ref (z 1), .int (nI ty), .ref (z 2), .ref (z 3), .ref (z 4), .ref (z 5), .int (nI kn), .ref (z 6), .ref (z 7), .ref (z 8), .int (nI no), .int (nI at_), .int (nI so), .int (nI sr), .int (nI va), .ref (z 9)])), (z 4, .inl (k.1 0, 66, .inl (ta_e g))), (z 6, .inl (k.1 0, 132, .inl (ta_e im))), (z 7, .inl (k.1 1, 2, .inl (ta_e kp)))] H := hP
    have hD : va_D A [(z 0, .inr (8, [.ref (z 1), .int (nI ty), .ref (z 2), .ref (z 3), .ref (z 4), .ref (z 5), .int (nI kn), .ref (z 6), .ref (z 7), .ref (z 8), .int (nI no), .int (nI at_), .int (nI so), .int (nI sr), .int (nI va), .ref (z 9)])), (z 4, .inl (k.1 0, 66, .inl (ta_e g))), (z 6, .inl (k.1 0, 132, .inl (ta_e im))), (z 7, .inl (k.1 1, 2, .inl (ta_e kp)))] := hD
    refine lv_if_ne (tgt := 12) hx hb dX8_back_6 (by decide) (fun c9 => ?_) (fun c9 => ?_)
    · exact absurd c9 (by decide)
    · refine ta_bipush C 4294967294 dX8_back_9 (by decide) ?_
      have hcd : ¬ sp_back_c kp x := by unfold sp_back_c; omega
      simp only [cl_n hcd] at ret
      have e1 : sp_back kp K x = 4294967294 := by
        unfold sp_back
        (repeat' split) <;> omega
      exact ret _ () dX8_back_11 rfl (by rw [e1]) hP hD hS
