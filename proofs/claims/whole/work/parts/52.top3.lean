theorem tg_X_rep0 {g : Nat → Nat} {X : Nat → Nat → Nat} {kd mi : Nat} (h6 : g 6 ≤ 8) (hm : mi ≤ 9) (hX : tg_X g X) : tg_X (tg_rep g 0 (10 * kd + mi)) (ta_x4 (ta_u (X 0) 0 kd) (ta_u (X 1) 0 mi) (X 2) (X 3)) := by
  refine ⟨fun j hj => ?_, fun j hj => ?_⟩
  · have hj : j < g 6 := hj
    by_cases q : j = 0
    · subst q
      show kd = (10 * kd + mi) / 10 ∧ mi = (10 * kd + mi) % 10
      omega
    · have e : tg_rep g 0 (10 * kd + mi) (8 + j) = g (8 + j) := ta_un (by omega)
      rw [e]
      show ta_u (X 0) 0 kd j = _ ∧ ta_u (X 1) 0 mi j = _
      rw [ta_un q, ta_un q]
      exact hX.1 j hj
  · have hj : j < g 7 := hj
    have e : tg_rep g 0 (10 * kd + mi) (16 + j) = g (16 + j) := ta_un (by omega)
    rw [e]
    exact hX.2 j hj
theorem tg_X_rep1 {g : Nat → Nat} {X : Nat → Nat → Nat} {kd mi : Nat} (h6 : g 6 ≤ 8) (hm : mi ≤ 9) (hX : tg_X g X) : tg_X (tg_rep g 1 (10 * kd + mi)) (ta_x4 (X 0) (X 1) (ta_u (X 2) 0 kd) (ta_u (X 3) 0 mi)) := by
  refine ⟨fun j hj => ?_, fun j hj => ?_⟩
  · have hj : j < g 6 := hj
    have e : tg_rep g 1 (10 * kd + mi) (8 + j) = g (8 + j) := ta_un (by omega)
    rw [e]
    exact hX.1 j hj
  · have hj : j < g 7 := hj
    by_cases q : j = 0
    · subst q
      show kd = (10 * kd + mi) / 10 ∧ mi = (10 * kd + mi) % 10
      omega
    · have e : tg_rep g 1 (10 * kd + mi) (16 + j) = g (16 + j) := ta_un (by omega)
      rw [e]
      show ta_u (X 2) 0 kd j = _ ∧ ta_u (X 3) 0 mi j = _
      rw [ta_un q, ta_un q]
      exact hX.2 j hj
set_option maxHeartbeats 4000000 in
set_option maxRecDepth 100000 in
theorem c_X7_behind (l : Launch) (D : va_G) (k : ta_C) (o : Nat → Nat) (x : Nat → Nat) (tq : Nat → Nat) (rd : Nat) (q : Nat → Nat) (tr : Nat → Nat) (pz : Nat → Nat) (sz : Nat → Nat) (t : Nat → Nat) (g : Nat → Nat) (X : Nat → Nat → Nat) (tt : Nat → Nat) (gg : Nat → Nat) (XX : Nat → Nat → Nat) (n : Nat) (w : Nat) (hok : tg_ok t g) (hh0 : g 0 < 1000000) (hX : tg_X g X) (wn : n < 4294967296) (ww : w < 4294967296) : ta_Mi (S := (Nat → Nat) × (Nat → Nat) × (Nat → Nat → Nat)) l D k yX7_behind cX7_behind 3 .int 5 170 [.ref (o 0), .int (nI n), .int (nI w)] ([(o 0, .inr (7, [.ref (x 0), .ref (tq 0), .ref rd, .ref (q 0), .ref (tr 0), .ref (pz 0), .ref (o 1), .ref (o 2), .ref (sz 0)]))] ++ ((dyW k q t g X) ++ (dyW k tr tt gg XX))) (fun r _ => r = nI (sp_behind t g n w)) (fun u => ([(o 0, .inr (7, [.ref (x 0), .ref (tq 0), .ref rd, .ref (q 0), .ref (tr 0), .ref (pz 0), .ref (o 1), .ref (o 2), .ref (sz 0)]))] ++ ((dyW k q t g X) ++ (dyW k tr u.1 u.2.1 u.2.2)))) := by
  refine ta_enter_i (by decide) (Nat.le_of_ble_eq_true rfl) ?_
  intro p e s m below meth c A ls Q C ret hP hD hS hl
  have C : ta_At p l D k s m ([.ref (o 0), .int (nI n), .int (nI w)] : List Value).toArray c RX7 cX7_behind 3 A := C
  have hx := C.1.1
  have hb := C.1.2.1
  have hl : lv_has ls 3 [(0, .ref (o 0)), (1, .int (nI n)), (2, .int (nI w))] := hl
  obtain ⟨H, hH⟩ : ∃ H, H = s.heap := ⟨_, rfl⟩
  obtain ⟨locs, hlocs⟩ : ∃ q : List Loc, q = [] := ⟨_, rfl⟩
  have hP : va_P D vwCl ([(o 0, .inr (7, [.ref (x 0), .ref (tq 0), .ref rd, .ref (q 0), .ref (tr 0), .ref (pz 0), .ref (o 1), .ref (o 2), .ref (sz 0)]))] ++ ((dyW k q t g X) ++ (dyW k tr tt gg XX))) H := by rw [hH]; exact hP
  have hS : va_S A s.heap H locs := by rw [hH, hlocs]; exact hS
  rw [← hlocs]
  suffices hgoal : W p l e ({ frames := 5, cells := 0, slots := 0, locals := 170 }) s m ([.ref (o 0), .int (nI n), .int (nI w)] : List Value).toArray below meth c H locs 0 0 Q (F0 m 0 ls []) by rw [hH] at hgoal; exact hgoal
  clear hH hlocs
  obtain ⟨⟨a1, a2, a3, a4, a5, a6⟩, b1, b2, b3, b4, b6, b7, b8, b9⟩ := id hok
  refine lv_iload_n hx hb dX7_behind_0 rfl (lv_at hl 1 rfl) ?_
  refine ta_wilt C (a := n) (tgt := 19) (by omega) dX7_behind_1 (by decide) (fun c1 => ?_) (fun c1 => ?_)
  · refine ta_bipush C 4294967293 dX7_behind_19 (by decide) ?_
    have e1 : sp_behind t g n w = 4294967293 := if_neg (by omega)
    exact ret (nI 4294967293) (tt, gg, XX) dX7_behind_21 rfl (by rw [e1]) hP hD hS
  · refine lv_iload_n hx hb dX7_behind_4 rfl (lv_at hl 1 rfl) ?_
    refine ta_bipush C 99 dX7_behind_5 (by decide) ?_
    refine ta_wgt C (a := n) (b := 99) (tgt := 19) (by omega) (by omega) dX7_behind_7 (by decide) (fun c2 => ?_) (fun c2 => ?_)
    · refine ta_bipush C 4294967293 dX7_behind_19 (by decide) ?_
      have e1 : sp_behind t g n w = 4294967293 := if_neg (by omega)
      exact ret (nI 4294967293) (tt, gg, XX) dX7_behind_21 rfl (by rw [e1]) hP hD hS
    · refine lv_iload_n hx hb dX7_behind_10 rfl (lv_at hl 2 rfl) ?_
      refine ta_wilt C (a := w) (tgt := 19) (by omega) dX7_behind_11 (by decide) (fun c3 => ?_) (fun c3 => ?_)
      · refine ta_bipush C 4294967293 dX7_behind_19 (by decide) ?_
        have e1 : sp_behind t g n w = 4294967293 := if_neg (by omega)
        exact ret (nI 4294967293) (tt, gg, XX) dX7_behind_21 rfl (by rw [e1]) hP hD hS
      · refine lv_iload_n hx hb dX7_behind_14 rfl (lv_at hl 2 rfl) ?_
        refine ta_iconst C 4 dX7_behind_15 (by decide) ?_
        refine ta_wle C (a := w) (b := 4) (tgt := 22) (by omega) (by omega) dX7_behind_16 (by decide) (fun c4 => ?_) (fun c4 => ?_)
        · refine lv_aload_n hx hb dX7_behind_22 rfl (lv_at hl 0 rfl) ?_
          refine ta_get C hP 0 inlX7 rfl rfl 4 (by decide) tw_28 rfl dX7_behind_23 ?_
          refine lv_aload_n hx hb dX7_behind_26 rfl (lv_at hl 0 rfl) ?_
          refine ta_get C hP 0 inlX7 rfl rfl 3 (by decide) tw_27 rfl dX7_behind_27 ?_
          refine ta_callVv (As := [.ref (q 0)]) (rest0 := []) (Wr := [(o 0, .inr (7, [.ref (x 0), .ref (tq 0), .ref rd, .ref (q 0), .ref (tr 0), .ref (pz 0), .ref (o 1), .ref (o 2), .ref (sz 0)]))]) C hP hD hS (c_X0_copyFrom l D k tr tt gg XX q t g X b6 b7 hX) 12 rfl rfl rfl [12, 13, 14, 15, 16, 17, 18, 19, 20, 21, 22, 1, 2, 3, 4, 5, 6, 7, 8, 9, 10, 11] [0] rfl rfl (by decide) (by decide) (by decide) tw_434 tw_536 tw_26 tw_432 tw_433 ⟨by decide, by decide, rfl⟩ ⟨Nat.le_of_ble_eq_true rfl, Nat.le_of_ble_eq_true rfl⟩ ⟨Nat.zero_le _, Nat.zero_le _⟩ hl.1 rfl (Nat.le_of_ble_eq_true rfl) dX7_behind_30 (fun u6 H locs h7 hP hD hS => ?_)
          obtain ⟨u_8, hu0⟩ : ∃ z, z = u6 := ⟨_, rfl⟩
          subst hu0
          have hX9 := h7
          have hP : va_P D vwCl ([(o 0, .inr (7, [.ref (x 0), .ref (tq 0), .ref rd, .ref (q 0), .ref (tr 0), .ref (pz 0), .ref (o 1), .ref (o 2), .ref (sz 0)]))] ++ ((dyW k tr t g u_8) ++ (dyW k q t g X))) H := hP
          have hD : va_D A ([(o 0, .inr (7, [.ref (x 0), .ref (tq 0), .ref rd, .ref (q 0), .ref (tr 0), .ref (pz 0), .ref (o 1), .ref (o 2), .ref (sz 0)]))] ++ ((dyW k tr t g u_8) ++ (dyW k q t g X))) := hD
          refine lv_aload_n hx hb dX7_behind_33 rfl (lv_at hl 0 rfl) ?_
          refine ta_get C hP 0 inlX7 rfl rfl 4 (by decide) tw_28 rfl dX7_behind_34 ?_
          refine lv_iload_n hx hb dX7_behind_37 rfl (lv_at hl 1 rfl) ?_
          refine ta_callVv (As := [.int (nI n)]) (rest0 := []) (Wr := ([(o 0, .inr (7, [.ref (x 0), .ref (tq 0), .ref rd, .ref (q 0), .ref (tr 0), .ref (pz 0), .ref (o 1), .ref (o 2), .ref (sz 0)]))] ++ (dyW k q t g X))) C hP hD hS (c_X0_goMinutes l D k tr t g u_8 n hok (by omega) hX9) 1 rfl rfl rfl [1, 2, 3, 4, 5, 6, 7, 8, 9, 10, 11] [0, 12, 13, 14, 15, 16, 17, 18, 19, 20, 21, 22] rfl rfl (by decide) (by decide) (by decide) tw_439 tw_436 tw_26 tw_437 tw_438 ⟨by decide, by decide, rfl⟩ ⟨Nat.le_of_ble_eq_true rfl, Nat.le_of_ble_eq_true rfl⟩ ⟨Nat.zero_le _, Nat.zero_le _⟩ hl.1 rfl (Nat.le_of_ble_eq_true rfl) dX7_behind_38 (fun u11 H locs h12 hP hD hS => ?_)
          obtain ⟨u_13, hu0⟩ : ∃ z, z = u11 := ⟨_, rfl⟩
          subst hu0
          have hX14 := h12
          have hP : va_P D vwCl ([(o 0, .inr (7, [.ref (x 0), .ref (tq 0), .ref rd, .ref (q 0), .ref (tr 0), .ref (pz 0), .ref (o 1), .ref (o 2), .ref (sz 0)]))] ++ ((dyW k q t g X) ++ (dyW k tr t (tg_it t g n) u_13))) H := hP
          have hD : va_D A ([(o 0, .inr (7, [.ref (x 0), .ref (tq 0), .ref rd, .ref (q 0), .ref (tr 0), .ref (pz 0), .ref (o 1), .ref (o 2), .ref (sz 0)]))] ++ ((dyW k q t g X) ++ (dyW k tr t (tg_it t g n) u_13))) := hD
          have hlt : tg_it t g n 2 < 36 := by obtain ⟨⟨a1, a2, a3, a4, -, -⟩, -, b2, -⟩ := tg_ok_it hok n; exact Nat.lt_of_lt_of_le b2 (tg_36 a2 a4)
          refine lv_iload_n hx hb dX7_behind_41 rfl (lv_at hl 2 rfl) ?_
          rcases (show w = 0 ∨ w = 1 ∨ w = 2 ∨ w = 3 ∨ 4 ≤ w by omega) with rfl | rfl | rfl | rfl | hout
          · refine lv_tableIn (tgt := 72) hx hb dX7_behind_42 (by decide) (by decide) (off := 30) (by decide) (by decide) ?_
            refine lv_aload_n hx hb dX7_behind_72 rfl (lv_at hl 0 rfl) ?_
            refine ta_get C hP 0 inlX7 rfl rfl 4 (by decide) tw_28 rfl dX7_behind_73 ?_
            refine ta_callVi (As := []) (rest0 := []) (Wr := ([(o 0, .inr (7, [.ref (x 0), .ref (tq 0), .ref rd, .ref (q 0), .ref (tr 0), .ref (pz 0), .ref (o 1), .ref (o 2), .ref (sz 0)]))] ++ (dyW k q t g X))) C hP hD hS (c_X0_cell l D k tr t (tg_it t g n) u_13) 12 rfl rfl rfl [12, 13, 14, 15, 16, 17, 18, 19, 20, 21, 22] [0, 1, 2, 3, 4, 5, 6, 7, 8, 9, 10, 11] rfl rfl (by decide) (by decide) (by decide) tw_464 tw_469 tw_26 tw_462 tw_463 ⟨by decide, by decide, rfl⟩ ⟨Nat.le_of_ble_eq_true rfl, Nat.le_of_ble_eq_true rfl⟩ ⟨Nat.zero_le _, Nat.zero_le _⟩ hl.1 rfl (Nat.le_of_ble_eq_true rfl) dX7_behind_76 (fun r15 u16 H locs h17 hP hD hS => ?_)
            obtain rfl := h17
            have hP : va_P D vwCl ([(o 0, .inr (7, [.ref (x 0), .ref (tq 0), .ref rd, .ref (q 0), .ref (tr 0), .ref (pz 0), .ref (o 1), .ref (o 2), .ref (sz 0)]))] ++ ((dyW k q t g X) ++ (dyW k tr t (tg_it t g n) u_13))) H := hP
            have hD : va_D A ([(o 0, .inr (7, [.ref (x 0), .ref (tq 0), .ref rd, .ref (q 0), .ref (tr 0), .ref (pz 0), .ref (o 1), .ref (o 2), .ref (sz 0)]))] ++ ((dyW k q t g X) ++ (dyW k tr t (tg_it t g n) u_13))) := hD
            have e1 : sp_behind t g n 0 = (tg_it t g n) 2 := by
              unfold sp_behind
              rw [if_pos ⟨by omega, by omega⟩]
              rfl
            exact ret (nI ((tg_it t g n) 2)) (t, (tg_it t g n), u_13) dX7_behind_79 rfl (by rw [e1]) hP hD hS
          · refine lv_tableIn (tgt := 80) hx hb dX7_behind_42 (by decide) (by decide) (off := 38) (by decide) (by decide) ?_
            refine lv_aload_n hx hb dX7_behind_80 rfl (lv_at hl 0 rfl) ?_
            refine ta_get C hP 0 inlX7 rfl rfl 4 (by decide) tw_28 rfl dX7_behind_81 ?_
            refine ta_getN C hP 12 inlX0 rfl rfl 7 (by decide) 30 rfl rfl dX7_behind_84 ?_
            have e1 : sp_behind t g n 1 = (tg_it t g n) 3 := by
              unfold sp_behind
              rw [if_pos ⟨by omega, by omega⟩]
              rfl
            exact ret (nI ((tg_it t g n) 3)) (t, (tg_it t g n), u_13) dX7_behind_87 rfl (by rw [e1]) hP hD hS
          · refine lv_tableIn (tgt := 88) hx hb dX7_behind_42 (by decide) (by decide) (off := 46) (by decide) (by decide) ?_
            refine lv_aload_n hx hb dX7_behind_88 rfl (lv_at hl 0 rfl) ?_
            refine ta_get C hP 0 inlX7 rfl rfl 4 (by decide) tw_28 rfl dX7_behind_89 ?_
            refine ta_getN C hP 12 inlX0 rfl rfl 10 (by decide) 33 rfl rfl dX7_behind_92 ?_
            refine lv_aload_n hx hb dX7_behind_95 rfl (lv_at hl 0 rfl) ?_
            refine ta_get C hP 0 inlX7 rfl rfl 4 (by decide) tw_28 rfl dX7_behind_96 ?_
            refine ta_callVi (As := []) (rest0 := [.ref (tr 1)]) (Wr := ([(o 0, .inr (7, [.ref (x 0), .ref (tq 0), .ref rd, .ref (q 0), .ref (tr 0), .ref (pz 0), .ref (o 1), .ref (o 2), .ref (sz 0)]))] ++ (dyW k q t g X))) C hP hD hS (c_X0_cell l D k tr t (tg_it t g n) u_13) 12 rfl rfl rfl [12, 13, 14, 15, 16, 17, 18, 19, 20, 21, 22] [0, 1, 2, 3, 4, 5, 6, 7, 8, 9, 10, 11] rfl rfl (by decide) (by decide) (by decide) tw_464 tw_469 tw_26 tw_462 tw_463 ⟨by decide, by decide, rfl⟩ ⟨Nat.le_of_ble_eq_true rfl, Nat.le_of_ble_eq_true rfl⟩ ⟨Nat.zero_le _, Nat.zero_le _⟩ hl.1 rfl (Nat.le_of_ble_eq_true rfl) dX7_behind_99 (fun r18 u19 H locs h20 hP hD hS => ?_)
            obtain rfl := h20
            have hP : va_P D vwCl ([(o 0, .inr (7, [.ref (x 0), .ref (tq 0), .ref rd, .ref (q 0), .ref (tr 0), .ref (pz 0), .ref (o 1), .ref (o 2), .ref (sz 0)]))] ++ ((dyW k q t g X) ++ (dyW k tr t (tg_it t g n) u_13))) H := hP
            have hD : va_D A ([(o 0, .inr (7, [.ref (x 0), .ref (tq 0), .ref rd, .ref (q 0), .ref (tr 0), .ref (pz 0), .ref (o 1), .ref (o 2), .ref (sz 0)]))] ++ ((dyW k q t g X) ++ (dyW k tr t (tg_it t g n) u_13))) := hD
            refine ta_iald C hP 13 rfl (i := (tg_it t g n) 2) (by omega) dX7_behind_102 ?_
            have e1 : sp_behind t g n 2 = (tg_mud (tg_it t g n)) ((tg_it t g n) 2) := by
              unfold sp_behind
              rw [if_pos ⟨by omega, by omega⟩]
              rfl
            exact ret (nI ((tg_mud (tg_it t g n)) ((tg_it t g n) 2))) (t, (tg_it t g n), u_13) dX7_behind_103 rfl (by rw [e1]) hP hD hS
          · refine lv_tableIn (tgt := 104) hx hb dX7_behind_42 (by decide) (by decide) (off := 62) (by decide) (by decide) ?_
            refine lv_aload_n hx hb dX7_behind_104 rfl (lv_at hl 0 rfl) ?_
            refine ta_get C hP 0 inlX7 rfl rfl 4 (by decide) tw_28 rfl dX7_behind_105 ?_
            refine ta_getN C hP 12 inlX0 rfl rfl 12 (by decide) 35 rfl rfl dX7_behind_108 ?_
            refine ta_iconst C 0 dX7_behind_111 (by decide) ?_
            refine ta_iald C hP 15 rfl (i := 0) (by omega) dX7_behind_112 ?_
            have e1 : sp_behind t g n 3 = (tg_kne (tg_it t g n)) 0 := by
              unfold sp_behind
              rw [if_pos ⟨by omega, by omega⟩]
              rfl
            exact ret (nI ((tg_kne (tg_it t g n)) 0)) (t, (tg_it t g n), u_13) dX7_behind_113 rfl (by rw [e1]) hP hD hS
          · refine lv_tableOut (tgt := 114) hx hb dX7_behind_42 (ta_swo (by omega) (by omega)) (by decide) ?_
            refine lv_aload_n hx hb dX7_behind_114 rfl (lv_at hl 0 rfl) ?_
            refine ta_get C hP 0 inlX7 rfl rfl 4 (by decide) tw_28 rfl dX7_behind_115 ?_
            refine ta_getN C hP 12 inlX0 rfl rfl 12 (by decide) 35 rfl rfl dX7_behind_118 ?_
            refine ta_iconst C 1 dX7_behind_121 (by decide) ?_
            refine ta_iald C hP 15 rfl (i := 1) (by omega) dX7_behind_122 ?_
            have e4 : w = 4 := by omega
            have e1 : sp_behind t g n w = (tg_kne (tg_it t g n)) 1 := by
              unfold sp_behind
              rw [e4, if_pos ⟨by omega, by omega⟩]
              rfl
            exact ret (nI ((tg_kne (tg_it t g n)) 1)) (t, (tg_it t g n), u_13) dX7_behind_123 rfl (by rw [e1]) hP hD hS
        · refine ta_bipush C 4294967293 dX7_behind_19 (by decide) ?_
          have e1 : sp_behind t g n w = 4294967293 := if_neg (by omega)
          exact ret (nI 4294967293) (tt, gg, XX) dX7_behind_21 rfl (by rw [e1]) hP hD hS

set_option maxHeartbeats 4000000 in
set_option maxRecDepth 100000 in
theorem c_X7_first (l : Launch) (D : va_G) (k : ta_C) (o : Nat → Nat) (x : Nat → Nat) (tq : Nat → Nat) (rd : Nat) (q : Nat → Nat) (tr : Nat → Nat) (pz : Nat → Nat) (sz : Nat → Nat) (t : Nat → Nat) (g : Nat → Nat) (X : Nat → Nat → Nat) (tt : Nat → Nat) (gg : Nat → Nat) (XX : Nat → Nat → Nat) (a : Nat) (hok : tg_ok t g) (hh0 : g 0 < 1000000) (hX : tg_X g X) (wa : a < 4294967296) : ta_Mi (S := (Nat → Nat) × (Nat → Nat) × (Nat → Nat → Nat)) l D k yX7_first cX7_first 3 .int 4 140 [.ref (o 0), .int (nI a)] ([(o 0, .inr (7, [.ref (x 0), .ref (tq 0), .ref rd, .ref (q 0), .ref (tr 0), .ref (pz 0), .ref (o 1), .ref (o 2), .ref (sz 0)]))] ++ ((dyW k q t g X) ++ (dyW k tr tt gg XX))) (fun r _ => r = nI (sp_first t g a)) (fun u => ([(o 0, .inr (7, [.ref (x 0), .ref (tq 0), .ref rd, .ref (q 0), .ref (tr 0), .ref (pz 0), .ref (o 1), .ref (o 2), .ref (sz 0)]))] ++ ((dyW k q t g X) ++ (dyW k tr u.1 u.2.1 u.2.2)))) := by
  refine ta_enter_i (by decide) (Nat.le_of_ble_eq_true rfl) ?_
  intro p e s m below meth c A ls Q C ret hP hD hS hl
  have C : ta_At p l D k s m ([.ref (o 0), .int (nI a)] : List Value).toArray c RX7 cX7_first 3 A := C
  have hx := C.1.1
  have hb := C.1.2.1
  have hl : lv_has ls 3 [(0, .ref (o 0)), (1, .int (nI a))] := hl
  obtain ⟨H, hH⟩ : ∃ H, H = s.heap := ⟨_, rfl⟩
  obtain ⟨locs, hlocs⟩ : ∃ q : List Loc, q = [] := ⟨_, rfl⟩
  have hP : va_P D vwCl ([(o 0, .inr (7, [.ref (x 0), .ref (tq 0), .ref rd, .ref (q 0), .ref (tr 0), .ref (pz 0), .ref (o 1), .ref (o 2), .ref (sz 0)]))] ++ ((dyW k q t g X) ++ (dyW k tr tt gg XX))) H := by rw [hH]; exact hP
  have hS : va_S A s.heap H locs := by rw [hH, hlocs]; exact hS
  rw [← hlocs]
  suffices hgoal : W p l e ({ frames := 4, cells := 0, slots := 0, locals := 140 }) s m ([.ref (o 0), .int (nI a)] : List Value).toArray below meth c H locs 0 0 Q (F0 m 0 ls []) by rw [hH] at hgoal; exact hgoal
  clear hH hlocs
  obtain ⟨⟨a1, a2, a3, a4, a5, a6⟩, b1, b2, b3, b4, b6, b7, b8, b9⟩ := id hok
  refine lv_iload_n hx hb dX7_first_0 rfl (lv_at hl 1 rfl) ?_
  refine ta_callSi (As := [.int (nI a)]) (rest0 := []) (Wr := ([(o 0, .inr (7, [.ref (x 0), .ref (tq 0), .ref rd, .ref (q 0), .ref (tr 0), .ref (pz 0), .ref (o 1), .ref (o 2), .ref (sz 0)]))] ++ ((dyW k q t g X) ++ (dyW k tr tt gg XX)))) C hP hD hS (c_X7_isArmy l D k a (by omega)) [] [0, 1, 2, 3, 4, 5, 6, 7, 8, 9, 10, 11, 12, 13, 14, 15, 16, 17, 18, 19, 20, 21, 22] rfl rfl (by decide) (by decide) (by decide) tw_385 tw_383 tw_2 tw_384 ⟨by decide, by decide, rfl⟩ ⟨Nat.le_of_ble_eq_true rfl, Nat.le_of_ble_eq_true rfl⟩ ⟨Nat.zero_le _, Nat.zero_le _⟩ hl.1 rfl (Nat.le_of_ble_eq_true rfl) dX7_first_1 (fun r1 u2 H locs h3 hP hD hS => ?_)
  rcases h3 with h0 | h0
  · obtain ⟨hi4, rfl⟩ := h0
    have hP : va_P D vwCl ([(o 0, .inr (7, [.ref (x 0), .ref (tq 0), .ref rd, .ref (q 0), .ref (tr 0), .ref (pz 0), .ref (o 1), .ref (o 2), .ref (sz 0)]))] ++ ((dyW k q t g X) ++ (dyW k tr tt gg XX))) H := hP
    have hD : va_D A ([(o 0, .inr (7, [.ref (x 0), .ref (tq 0), .ref rd, .ref (q 0), .ref (tr 0), .ref (pz 0), .ref (o 1), .ref (o 2), .ref (sz 0)]))] ++ ((dyW k q t g X) ++ (dyW k tr tt gg XX))) := hD
    refine lv_if_ne (tgt := 10) hx hb dX7_first_4 (by decide) (fun c5 => ?_) (fun c5 => ?_)
    · refine lv_aload_n hx hb dX7_first_10 rfl (lv_at hl 0 rfl) ?_
      refine ta_get C hP 0 inlX7 rfl rfl 4 (by decide) tw_28 rfl dX7_first_11 ?_
      refine lv_aload_n hx hb dX7_first_14 rfl (lv_at hl 0 rfl) ?_
      refine ta_get C hP 0 inlX7 rfl rfl 3 (by decide) tw_27 rfl dX7_first_15 ?_
      refine ta_callVv (As := [.ref (q 0)]) (rest0 := []) (Wr := [(o 0, .inr (7, [.ref (x 0), .ref (tq 0), .ref rd, .ref (q 0), .ref (tr 0), .ref (pz 0), .ref (o 1), .ref (o 2), .ref (sz 0)]))]) C hP hD hS (c_X0_copyFrom l D k tr tt gg XX q t g X b6 b7 hX) 12 rfl rfl rfl [12, 13, 14, 15, 16, 17, 18, 19, 20, 21, 22, 1, 2, 3, 4, 5, 6, 7, 8, 9, 10, 11] [0] rfl rfl (by decide) (by decide) (by decide) tw_434 tw_536 tw_26 tw_432 tw_433 ⟨by decide, by decide, rfl⟩ ⟨Nat.le_of_ble_eq_true rfl, Nat.le_of_ble_eq_true rfl⟩ ⟨Nat.zero_le _, Nat.zero_le _⟩ hl.1 rfl (Nat.le_of_ble_eq_true rfl) dX7_first_18 (fun u7 H locs h8 hP hD hS => ?_)
      obtain ⟨u_9, hu0⟩ : ∃ z, z = u7 := ⟨_, rfl⟩
      subst hu0
      have hX10 := h8
      have hP : va_P D vwCl ([(o 0, .inr (7, [.ref (x 0), .ref (tq 0), .ref rd, .ref (q 0), .ref (tr 0), .ref (pz 0), .ref (o 1), .ref (o 2), .ref (sz 0)]))] ++ ((dyW k tr t g u_9) ++ (dyW k q t g X))) H := hP
      have hD : va_D A ([(o 0, .inr (7, [.ref (x 0), .ref (tq 0), .ref rd, .ref (q 0), .ref (tr 0), .ref (pz 0), .ref (o 1), .ref (o 2), .ref (sz 0)]))] ++ ((dyW k tr t g u_9) ++ (dyW k q t g X))) := hD
      refine ta_iconst C 1 dX7_first_21 (by decide) ?_
      refine lv_istore_n (lv' := [(2, .int (nI 1)), (0, .ref (o 0)), (1, .int (nI a))]) hx hb dX7_first_22 rfl hl (by decide) rfl (fun ls hl => ?_)
      have loop_23 : ∀ (N_23 : Nat) (kx : Nat) (Zx : Nat → Nat → Nat), (1 ≤ kx ∧ kx ≤ 100) → (a < 2) → (tg_X (tg_it t g (kx - 1)) Zx) → (tg_fst t g a 99 0 = tg_fst t g a (100 - kx) (kx - 1)) → 100 - kx < N_23 → ∀ (H : Heap) (locs : List Loc) (ls : Array Slot), va_P D vwCl ([(o 0, .inr (7, [.ref (x 0), .ref (tq 0), .ref rd, .ref (q 0), .ref (tr 0), .ref (pz 0), .ref (o 1), .ref (o 2), .ref (sz 0)]))] ++ ((dyW k q t g X) ++ (dyW k tr t (tg_it t g (kx - 1)) Zx))) H → va_D A ([(o 0, .inr (7, [.ref (x 0), .ref (tq 0), .ref rd, .ref (q 0), .ref (tr 0), .ref (pz 0), .ref (o 1), .ref (o 2), .ref (sz 0)]))] ++ ((dyW k q t g X) ++ (dyW k tr t (tg_it t g (kx - 1)) Zx))) → va_S A s.heap H locs → lv_has ls 3 [(2, .int (nI kx)), (0, .ref (o 0)), (1, .int (nI a))] → W p l e ({ frames := 4, cells := 0, slots := 0, locals := 140 }) s m ([.ref (o 0), .int (nI a)] : List Value).toArray below meth c H locs 0 0 Q (F0 m 23 ls []) := by
        clear hP hD hS hl
        intro N_23
        induction N_23 with
        | zero =>
          intro kx Zx h1 ha2 hZx hfa hf_23
          exact absurd hf_23 (Nat.not_lt_zero _)
        | succ N_23 ih_23 =>
          intro kx Zx h1 ha2 hZx hfa hf_23 H locs ls hP hD hS hl
          refine lv_iload_n hx hb dX7_first_23 rfl (lv_at hl 0 rfl) ?_
          refine ta_bipush C 99 dX7_first_24 (by decide) ?_
          refine ta_cgt C (a := kx) (b := 99) (tgt := 48) (by omega) (by omega) dX7_first_26 (by decide) (fun c11 => ?_) (fun c11 => ?_)
          · refine ta_iconst C 4294967295 dX7_first_48 (by decide) ?_
            have e1 : sp_first t g a = 4294967295 := by
              unfold sp_first
              rw [if_pos ha2, hfa, show 100 - kx = 0 by omega]
              rfl
            exact ret (nI 4294967295) (t, (tg_it t g (kx - 1)), Zx) dX7_first_49 rfl (by rw [e1]) hP hD hS
          · refine lv_aload_n hx hb dX7_first_29 rfl (lv_at hl 1 rfl) ?_
            refine ta_get C hP 0 inlX7 rfl rfl 4 (by decide) tw_28 rfl dX7_first_30 ?_
            refine ta_callVi (As := []) (rest0 := []) (Wr := ([(o 0, .inr (7, [.ref (x 0), .ref (tq 0), .ref rd, .ref (q 0), .ref (tr 0), .ref (pz 0), .ref (o 1), .ref (o 2), .ref (sz 0)]))] ++ (dyW k q t g X))) C hP hD hS (c_X0_goMinute l D k tr t (tg_it t g (kx - 1)) Zx (tg_ok_it hok (kx - 1)) (by have := tg_it_0 hok (kx - 1); omega) hZx) 12 rfl rfl rfl [12, 13, 14, 15, 16, 17, 18, 19, 20, 21, 22] [0, 1, 2, 3, 4, 5, 6, 7, 8, 9, 10, 11] rfl rfl (by decide) (by decide) (by decide) tw_443 tw_569 tw_26 tw_441 tw_442 ⟨by decide, by decide, rfl⟩ ⟨Nat.le_of_ble_eq_true rfl, Nat.le_of_ble_eq_true rfl⟩ ⟨Nat.zero_le _, Nat.zero_le _⟩ hl.1 rfl (Nat.le_of_ble_eq_true rfl) dX7_first_33 (fun r12 u13 H locs h14 hP hD hS => ?_)
            obtain ⟨u_15, hu0⟩ : ∃ z, z = u13 := ⟨_, rfl⟩
            subst hu0
            obtain ⟨rfl, hX16⟩ := h14
            have hP : va_P D vwCl ([(o 0, .inr (7, [.ref (x 0), .ref (tq 0), .ref rd, .ref (q 0), .ref (tr 0), .ref (pz 0), .ref (o 1), .ref (o 2), .ref (sz 0)]))] ++ ((dyW k q t g X) ++ (dyW k tr t (tg_go t (tg_it t g (kx - 1))) u_15))) H := hP
            have hD : va_D A ([(o 0, .inr (7, [.ref (x 0), .ref (tq 0), .ref rd, .ref (q 0), .ref (tr 0), .ref (pz 0), .ref (o 1), .ref (o 2), .ref (sz 0)]))] ++ ((dyW k q t g X) ++ (dyW k tr t (tg_go t (tg_it t g (kx - 1))) u_15))) := hD
            have hkb := tg_kn_b (tg_it t g (kx - 1))
            have ei : tg_go t (tg_it t g (kx - 1)) = tg_it t g (kx + 1 - 1) := by obtain ⟨j, rfl⟩ : ∃ j, kx = j + 1 := ⟨kx - 1, by omega⟩; rfl
            rw [ei] at hP hD hX16
            refine lv_iload_n hx hb dX7_first_36 rfl (lv_at hl 2 rfl) ?_
            refine ta_cne C (a := tg_kn (tg_it t g (kx - 1))) (b := a) (tgt := 42) (by omega) (by omega) dX7_first_37 (by decide) (fun c17 => ?_) (fun c17 => ?_)
            · have hne := c17
              refine lv_iinc (v := nI (kx + 1)) (lv' := [(2, .int (nI (kx + 1))), (0, .ref (o 0)), (1, .int (nI a))]) hx hb dX7_first_42 hl (k := 0) rfl (ta_inc1 _) (by decide) rfl (fun ls hl => ?_)
              refine lv_goto (tgt := 23) hx hb dX7_first_45 (by decide) ?_
              exact ih_23 (kx + 1) u_15 (by omega) (by omega) hX16 (by rw [hfa, show 100 - kx = (100 - (kx + 1)) + 1 by omega, tg_fst_n hne, show kx - 1 + 1 = kx + 1 - 1 by omega]) (by omega) _ _ _ hP hD hS (lv_sub hl [0, 1, 2] rfl)
            · have heq := c17
              refine lv_iload_n hx hb dX7_first_40 rfl (lv_at hl 0 rfl) ?_
              have e1 : sp_first t g a = kx := by
                unfold sp_first
                rw [if_pos ha2, hfa, show 100 - kx = (100 - (kx + 1)) + 1 by omega, tg_fst_y heq]
                omega
              exact ret (nI kx) (t, (tg_it t g (kx + 1 - 1)), u_15) dX7_first_41 rfl (by rw [e1]) hP hD hS
      exact loop_23 ((100 - 1) + 1) 1 u_9 (by omega) (by omega) hX10 rfl (Nat.lt_succ_self _) _ _ _ (hP.sub [0, 12, 13, 14, 15, 16, 17, 18, 19, 20, 21, 22, 1, 2, 3, 4, 5, 6, 7, 8, 9, 10, 11] rfl) (hD.sub [0, 12, 13, 14, 15, 16, 17, 18, 19, 20, 21, 22, 1, 2, 3, 4, 5, 6, 7, 8, 9, 10, 11] (by decide) rfl) hS (lv_sub hl [0, 1, 2] rfl)
    · exact absurd c5 (by decide)
  · obtain ⟨hi18, rfl⟩ := h0
    have hP : va_P D vwCl ([(o 0, .inr (7, [.ref (x 0), .ref (tq 0), .ref rd, .ref (q 0), .ref (tr 0), .ref (pz 0), .ref (o 1), .ref (o 2), .ref (sz 0)]))] ++ ((dyW k q t g X) ++ (dyW k tr tt gg XX))) H := hP
    have hD : va_D A ([(o 0, .inr (7, [.ref (x 0), .ref (tq 0), .ref rd, .ref (q 0), .ref (tr 0), .ref (pz 0), .ref (o 1), .ref (o 2), .ref (sz 0)]))] ++ ((dyW k q t g X) ++ (dyW k tr tt gg XX))) := hD
    refine lv_if_ne (tgt := 10) hx hb dX7_first_4 (by decide) (fun c19 => ?_) (fun c19 => ?_)
    · exact absurd c19 (by decide)
    · refine ta_bipush C 4294967294 dX7_first_7 (by decide) ?_
      have e1 : sp_first t g a = 4294967294 := if_neg (by omega)
      exact ret (nI 4294967294) (tt, gg, XX) dX7_first_9 rfl (by rw [e1]) hP hD hS

set_option maxHeartbeats 4000000 in
set_option maxRecDepth 100000 in
theorem c_X7_inspected (l : Launch) (D : va_G) (k : ta_C) (o : Nat → Nat) (x : Nat → Nat) (tq : Nat → Nat) (rd : Nat) (q : Nat → Nat) (tr : Nat → Nat) (pz : Nat → Nat) (sz : Nat → Nat) (t : Nat → Nat) (g : Nat → Nat) (X : Nat → Nat → Nat) (tt : Nat → Nat) (gg : Nat → Nat) (XX : Nat → Nat → Nat) (n : Nat) (q_ : Nat) (hok : tg_ok t g) (hh0 : g 0 < 1000000) (hX : tg_X g X) (wn : n < 4294967296) (wq_ : q_ < 4294967296) : ta_Mi (S := (Nat → Nat) × (Nat → Nat) × (Nat → Nat → Nat)) l D k yX7_inspected cX7_inspected 6 .int 4 140 [.ref (o 0), .int (nI n), .int (nI q_)] ([(o 0, .inr (7, [.ref (x 0), .ref (tq 0), .ref rd, .ref (q 0), .ref (tr 0), .ref (pz 0), .ref (o 1), .ref (o 2), .ref (sz 0)]))] ++ ((dyW k q t g X) ++ (dyW k tr tt gg XX))) (fun r _ => r = nI (sp_inspected t g n q_)) (fun u => ([(o 0, .inr (7, [.ref (x 0), .ref (tq 0), .ref rd, .ref (q 0), .ref (tr 0), .ref (pz 0), .ref (o 1), .ref (o 2), .ref (sz 0)]))] ++ ((dyW k q t g X) ++ (dyW k tr u.1 u.2.1 u.2.2)))) := by
  refine ta_enter_i (by decide) (Nat.le_of_ble_eq_true rfl) ?_
  intro p e s m below meth c A ls Q C ret hP hD hS hl
  have C : ta_At p l D k s m ([.ref (o 0), .int (nI n), .int (nI q_)] : List Value).toArray c RX7 cX7_inspected 6 A := C
  have hx := C.1.1
  have hb := C.1.2.1
  have hl : lv_has ls 6 [(0, .ref (o 0)), (1, .int (nI n)), (2, .int (nI q_))] := hl
  obtain ⟨H, hH⟩ : ∃ H, H = s.heap := ⟨_, rfl⟩
  obtain ⟨locs, hlocs⟩ : ∃ q : List Loc, q = [] := ⟨_, rfl⟩
  have hP : va_P D vwCl ([(o 0, .inr (7, [.ref (x 0), .ref (tq 0), .ref rd, .ref (q 0), .ref (tr 0), .ref (pz 0), .ref (o 1), .ref (o 2), .ref (sz 0)]))] ++ ((dyW k q t g X) ++ (dyW k tr tt gg XX))) H := by rw [hH]; exact hP
  have hS : va_S A s.heap H locs := by rw [hH, hlocs]; exact hS
  rw [← hlocs]
  suffices hgoal : W p l e ({ frames := 4, cells := 0, slots := 0, locals := 140 }) s m ([.ref (o 0), .int (nI n), .int (nI q_)] : List Value).toArray below meth c H locs 0 0 Q (F0 m 0 ls []) by rw [hH] at hgoal; exact hgoal
  clear hH hlocs
  obtain ⟨⟨a1, a2, a3, a4, a5, a6⟩, b1, b2, b3, b4, b6, b7, b8, b9⟩ := id hok
  refine lv_iload_n hx hb dX7_inspected_0 rfl (lv_at hl 1 rfl) ?_
  refine ta_wilt C (a := n) (tgt := 20) (by omega) dX7_inspected_1 (by decide) (fun c1 => ?_) (fun c1 => ?_)
  · refine ta_bipush C 4294967293 dX7_inspected_20 (by decide) ?_
    have e1 : sp_inspected t g n q_ = 4294967293 := if_neg (by omega)
    exact ret (nI 4294967293) (tt, gg, XX) dX7_inspected_22 rfl (by rw [e1]) hP hD hS
  · refine lv_iload_n hx hb dX7_inspected_4 rfl (lv_at hl 1 rfl) ?_
    refine ta_bipush C 60 dX7_inspected_5 (by decide) ?_
    refine ta_wgt C (a := n) (b := 60) (tgt := 20) (by omega) (by omega) dX7_inspected_7 (by decide) (fun c2 => ?_) (fun c2 => ?_)
    · refine ta_bipush C 4294967293 dX7_inspected_20 (by decide) ?_
      have e1 : sp_inspected t g n q_ = 4294967293 := if_neg (by omega)
      exact ret (nI 4294967293) (tt, gg, XX) dX7_inspected_22 rfl (by rw [e1]) hP hD hS
    · refine lv_iload_n hx hb dX7_inspected_10 rfl (lv_at hl 2 rfl) ?_
      refine ta_wilt C (a := q_) (tgt := 20) (by omega) dX7_inspected_11 (by decide) (fun c3 => ?_) (fun c3 => ?_)
      · refine ta_bipush C 4294967293 dX7_inspected_20 (by decide) ?_
        have e1 : sp_inspected t g n q_ = 4294967293 := if_neg (by omega)
        exact ret (nI 4294967293) (tt, gg, XX) dX7_inspected_22 rfl (by rw [e1]) hP hD hS
      · refine lv_iload_n hx hb dX7_inspected_14 rfl (lv_at hl 2 rfl) ?_
        refine ta_bipush C 10 dX7_inspected_15 (by decide) ?_
        refine ta_wle C (a := q_) (b := 10) (tgt := 23) (by omega) (by omega) dX7_inspected_17 (by decide) (fun c4 => ?_) (fun c4 => ?_)
        · refine lv_aload_n hx hb dX7_inspected_23 rfl (lv_at hl 0 rfl) ?_
          refine ta_get C hP 0 inlX7 rfl rfl 4 (by decide) tw_28 rfl dX7_inspected_24 ?_
          refine lv_aload_n hx hb dX7_inspected_27 rfl (lv_at hl 0 rfl) ?_
          refine ta_get C hP 0 inlX7 rfl rfl 3 (by decide) tw_27 rfl dX7_inspected_28 ?_
          refine ta_callVv (As := [.ref (q 0)]) (rest0 := []) (Wr := [(o 0, .inr (7, [.ref (x 0), .ref (tq 0), .ref rd, .ref (q 0), .ref (tr 0), .ref (pz 0), .ref (o 1), .ref (o 2), .ref (sz 0)]))]) C hP hD hS (c_X0_copyFrom l D k tr tt gg XX q t g X b6 b7 hX) 12 rfl rfl rfl [12, 13, 14, 15, 16, 17, 18, 19, 20, 21, 22, 1, 2, 3, 4, 5, 6, 7, 8, 9, 10, 11] [0] rfl rfl (by decide) (by decide) (by decide) tw_434 tw_536 tw_26 tw_432 tw_433 ⟨by decide, by decide, rfl⟩ ⟨Nat.le_of_ble_eq_true rfl, Nat.le_of_ble_eq_true rfl⟩ ⟨Nat.zero_le _, Nat.zero_le _⟩ hl.1 rfl (Nat.le_of_ble_eq_true rfl) dX7_inspected_31 (fun u6 H locs h7 hP hD hS => ?_)
          obtain ⟨u_8, hu0⟩ : ∃ z, z = u6 := ⟨_, rfl⟩
          subst hu0
          have hX9 := h7
          have hP : va_P D vwCl ([(o 0, .inr (7, [.ref (x 0), .ref (tq 0), .ref rd, .ref (q 0), .ref (tr 0), .ref (pz 0), .ref (o 1), .ref (o 2), .ref (sz 0)]))] ++ ((dyW k tr t g u_8) ++ (dyW k q t g X))) H := hP
          have hD : va_D A ([(o 0, .inr (7, [.ref (x 0), .ref (tq 0), .ref rd, .ref (q 0), .ref (tr 0), .ref (pz 0), .ref (o 1), .ref (o 2), .ref (sz 0)]))] ++ ((dyW k tr t g u_8) ++ (dyW k q t g X))) := hD
          refine lv_ldc2 (v := 1000000000) hx hb C.1.2.2.2.1 (C.1.2.2.2.2 _ tw_658) dX7_inspected_34 ?_
          refine ta_lval (y := lN 1000000000) (by decide) ?_
          refine lv_lstore_n (lv' := [(3, .long (lN 1000000000)), (0, .ref (o 0)), (1, .int (nI n)), (2, .int (nI q_))]) hx hb dX7_inspected_37 rfl hl (by decide) rfl (fun ls hl => ?_)
          refine ta_iconst C 0 dX7_inspected_38 (by decide) ?_
          refine lv_istore (lv' := [(5, .int (nI 0)), (3, .long (lN 1000000000)), (0, .ref (o 0)), (1, .int (nI n)), (2, .int (nI q_))]) hx hb dX7_inspected_39 hl (by decide) rfl (fun ls hl => ?_)
          have loop_41 : ∀ (N_41 : Nat) (i : Nat) (Zx : Nat → Nat → Nat), (i ≤ n) → (n ≤ 60) → (q_ ≤ 10) → (tg_X (tg_it t g i) Zx) → n - i < N_41 → ∀ (H : Heap) (locs : List Loc) (ls : Array Slot), va_P D vwCl ([(o 0, .inr (7, [.ref (x 0), .ref (tq 0), .ref rd, .ref (q 0), .ref (tr 0), .ref (pz 0), .ref (o 1), .ref (o 2), .ref (sz 0)]))] ++ ((dyW k q t g X) ++ (dyW k tr t (tg_it t g i) Zx))) H → va_D A ([(o 0, .inr (7, [.ref (x 0), .ref (tq 0), .ref rd, .ref (q 0), .ref (tr 0), .ref (pz 0), .ref (o 1), .ref (o 2), .ref (sz 0)]))] ++ ((dyW k q t g X) ++ (dyW k tr t (tg_it t g i) Zx))) → va_S A s.heap H locs → lv_has ls 6 [(5, .int (nI i)), (3, .long (lN (tg_odd t g q_ i))), (0, .ref (o 0)), (1, .int (nI n)), (2, .int (nI q_))] → W p l e ({ frames := 4, cells := 0, slots := 0, locals := 140 }) s m ([.ref (o 0), .int (nI n), .int (nI q_)] : List Value).toArray below meth c H locs 0 0 Q (F0 m 41 ls []) := by
            clear hP hD hS hl
            intro N_41
            induction N_41 with
            | zero =>
              intro i Zx h1 hn60 hq10 hZx hf_41
              exact absurd hf_41 (Nat.not_lt_zero _)
            | succ N_41 ih_41 =>
              intro i Zx h1 hn60 hq10 hZx hf_41 H locs ls hP hD hS hl
              refine lv_iload hx hb dX7_inspected_41 (lv_at hl 0 rfl) ?_
              refine lv_iload_n hx hb dX7_inspected_43 rfl (lv_at hl 3 rfl) ?_
              refine ta_cge C (a := i) (b := n) (tgt := 76) (by omega) (by omega) dX7_inspected_44 (by decide) (fun c10 => ?_) (fun c10 => ?_)
              · refine lv_lload_n hx hb dX7_inspected_76 rfl (lv_at hl 1 rfl) ?_
                refine lv_l2i (v := nI (tg_odd t g q_ i)) hx hb dX7_inspected_77 (lN_i _) ?_
                have e1 : sp_inspected t g n q_ = tg_odd t g q_ i := by rw [show i = n by omega]; exact if_pos (by omega)
                exact ret (nI (tg_odd t g q_ i)) (t, (tg_it t g i), Zx) dX7_inspected_78 rfl (by rw [e1]) hP hD hS
              · refine lv_aload_n hx hb dX7_inspected_47 rfl (lv_at hl 2 rfl) ?_
                refine ta_get C hP 0 inlX7 rfl rfl 4 (by decide) tw_28 rfl dX7_inspected_48 ?_
                refine ta_callVi (As := []) (rest0 := []) (Wr := ([(o 0, .inr (7, [.ref (x 0), .ref (tq 0), .ref rd, .ref (q 0), .ref (tr 0), .ref (pz 0), .ref (o 1), .ref (o 2), .ref (sz 0)]))] ++ (dyW k q t g X))) C hP hD hS (c_X0_goMinute l D k tr t (tg_it t g i) Zx (tg_ok_it hok i) (by have := tg_it_0 hok i; omega) hZx) 12 rfl rfl rfl [12, 13, 14, 15, 16, 17, 18, 19, 20, 21, 22] [0, 1, 2, 3, 4, 5, 6, 7, 8, 9, 10, 11] rfl rfl (by decide) (by decide) (by decide) tw_443 tw_569 tw_26 tw_441 tw_442 ⟨by decide, by decide, rfl⟩ ⟨Nat.le_of_ble_eq_true rfl, Nat.le_of_ble_eq_true rfl⟩ ⟨Nat.zero_le _, Nat.zero_le _⟩ hl.1 rfl (Nat.le_of_ble_eq_true rfl) dX7_inspected_51 (fun r11 u12 H locs h13 hP hD hS => ?_)
                obtain ⟨u_14, hu0⟩ : ∃ z, z = u12 := ⟨_, rfl⟩
                subst hu0
                obtain ⟨rfl, hX15⟩ := h13
                have hP : va_P D vwCl ([(o 0, .inr (7, [.ref (x 0), .ref (tq 0), .ref rd, .ref (q 0), .ref (tr 0), .ref (pz 0), .ref (o 1), .ref (o 2), .ref (sz 0)]))] ++ ((dyW k q t g X) ++ (dyW k tr t (tg_go t (tg_it t g i)) u_14))) H := hP
                have hD : va_D A ([(o 0, .inr (7, [.ref (x 0), .ref (tq 0), .ref rd, .ref (q 0), .ref (tr 0), .ref (pz 0), .ref (o 1), .ref (o 2), .ref (sz 0)]))] ++ ((dyW k q t g X) ++ (dyW k tr t (tg_go t (tg_it t g i)) u_14))) := hD
                have hkb := tg_kn_b (tg_it t g i)
                refine ta_iconst C 4294967295 dX7_inspected_54 (by decide) ?_
                refine ta_ceq C (a := tg_kn (tg_it t g i)) (b := 4294967295) (tgt := 70) (by omega) (by omega) dX7_inspected_55 (by decide) (fun c16 => ?_) (fun c16 => ?_)
                · refine lv_iinc (v := nI (i + 1)) (lv' := [(5, .int (nI (i + 1))), (3, .long (lN (tg_odd t g q_ i))), (0, .ref (o 0)), (1, .int (nI n)), (2, .int (nI q_))]) hx hb dX7_inspected_70 hl (k := 0) rfl (ta_inc1 _) (by decide) rfl (fun ls hl => ?_)
                  refine lv_goto (tgt := 41) hx hb dX7_inspected_73 (by decide) ?_
                  rw [← tg_odd_y c16] at hl
                  exact ih_41 (i + 1) u_14 (by omega) (by omega) (by omega) hX15 (by omega) _ _ _ hP hD hS (lv_sub hl [0, 1, 2, 3, 4] rfl)
                · refine lv_lload_n hx hb dX7_inspected_58 rfl (lv_at hl 1 rfl) ?_
                  refine ta_bipush C 10 dX7_inspected_59 (by decide) ?_
                  refine lv_iload_n hx hb dX7_inspected_61 rfl (lv_at hl 4 rfl) ?_
                  refine ta_isub C (a := 10) (b := q_) (by omega) dX7_inspected_62 ?_
                  refine lv_i2l (v := lN (10 - q_)) hx hb dX7_inspected_63 (nI_l (by omega)) ?_
                  refine lv_lmul hx hb dX7_inspected_64 ?_
                  refine ta_lval (y := lN ((tg_odd t g q_ i) * (10 - q_))) (lN_mul _ _) ?_
                  refine lv_ldc2 (v := 10) hx hb C.1.2.2.2.1 (C.1.2.2.2.2 _ tw_659) dX7_inspected_65 ?_
                  refine ta_lval (y := lN 10) (by decide) ?_
                  have hob := tg_odd_b t g q_ i
                  have hob2 : tg_odd t g q_ i * (10 - q_) ≤ tg_odd t g q_ i * 10 := Nat.mul_le_mul_left _ (by omega)
                  refine lv_ldiv hx hb dX7_inspected_68 (by decide) ?_
                  refine ta_lval (y := lN (((tg_odd t g q_ i) * (10 - q_)) / 10)) (pk_lDiv (by omega) (by omega) (by omega)) ?_
                  refine lv_lstore_n (lv' := [(3, .long (lN (((tg_odd t g q_ i) * (10 - q_)) / 10))), (5, .int (nI i)), (0, .ref (o 0)), (1, .int (nI n)), (2, .int (nI q_))]) hx hb dX7_inspected_69 rfl hl (by decide) rfl (fun ls hl => ?_)
                  refine lv_iinc (v := nI (i + 1)) (lv' := [(5, .int (nI (i + 1))), (3, .long (lN (((tg_odd t g q_ i) * (10 - q_)) / 10))), (0, .ref (o 0)), (1, .int (nI n)), (2, .int (nI q_))]) hx hb dX7_inspected_70 hl (k := 1) rfl (ta_inc1 _) (by decide) rfl (fun ls hl => ?_)
                  refine lv_goto (tgt := 41) hx hb dX7_inspected_73 (by decide) ?_
                  rw [← tg_odd_n c16] at hl
                  exact ih_41 (i + 1) u_14 (by omega) (by omega) (by omega) hX15 (by omega) _ _ _ hP hD hS (lv_sub hl [0, 1, 2, 3, 4] rfl)
          exact loop_41 ((n - 0) + 1) 0 u_8 (by omega) (by omega) (by omega) hX9 (Nat.lt_succ_self _) _ _ _ (hP.sub [0, 12, 13, 14, 15, 16, 17, 18, 19, 20, 21, 22, 1, 2, 3, 4, 5, 6, 7, 8, 9, 10, 11] rfl) (hD.sub [0, 12, 13, 14, 15, 16, 17, 18, 19, 20, 21, 22, 1, 2, 3, 4, 5, 6, 7, 8, 9, 10, 11] (by decide) rfl) hS (lv_sub hl [0, 1, 2, 3, 4] rfl)
        · refine ta_bipush C 4294967293 dX7_inspected_20 (by decide) ?_
          have e1 : sp_inspected t g n q_ = 4294967293 := if_neg (by omega)
          exact ret (nI 4294967293) (tt, gg, XX) dX7_inspected_22 rfl (by rw [e1]) hP hD hS

set_option maxHeartbeats 4000000 in
set_option maxRecDepth 100000 in
theorem c_X7_wound (l : Launch) (D : va_G) (k : ta_C) (o : Nat → Nat) (x : Nat → Nat) (tq : Nat → Nat) (rd : Nat) (q : Nat → Nat) (tr : Nat → Nat) (pz : Nat → Nat) (sz : Nat → Nat) (t : Nat → Nat) (g : Nat → Nat) (X : Nat → Nat → Nat) (tt : Nat → Nat) (gg : Nat → Nat) (XX : Nat → Nat → Nat) (n : Nat) (c_ : Nat → Nat) (m_ : Nat → Nat) (hok : tg_ok t g) (hh0 : g 0 < 1000000) (hX : tg_X g X) (hn6 : n ≤ 6) (hm : ∀ j, j < n → m_ j ≤ 60) (hm1 : ∀ j, j < n → 1 ≤ m_ j) (hcs : ∀ j, j < n → c_ j < 36) : ta_Mi (S := (Nat → Nat) × (Nat → Nat) × (Nat → Nat → Nat)) l D k yX7_wound cX7_wound 3 .int 5 170 [.ref (o 0)] ([(o 0, .inr (7, [.ref (x 0), .ref (tq 0), .ref rd, .ref (q 0), .ref (tr 0), .ref (pz 0), .ref (o 1), .ref (o 2), .ref (sz 0)]))] ++ ((dyW k q t g X) ++ ((dyW k tr tt gg XX) ++ (siW k sz n c_ m_)))) (fun r _ => r = nI (sp_wound t g n c_ m_)) (fun u => ([(o 0, .inr (7, [.ref (x 0), .ref (tq 0), .ref rd, .ref (q 0), .ref (tr 0), .ref (pz 0), .ref (o 1), .ref (o 2), .ref (sz 0)]))] ++ ((dyW k q t g X) ++ ((dyW k tr u.1 u.2.1 u.2.2) ++ (siW k sz n c_ m_))))) := by
  refine ta_enter_i (by decide) (Nat.le_of_ble_eq_true rfl) ?_
  intro p e s m below meth c A ls Q C ret hP hD hS hl
  have C : ta_At p l D k s m ([.ref (o 0)] : List Value).toArray c RX7 cX7_wound 3 A := C
  have hx := C.1.1
  have hb := C.1.2.1
  have hl : lv_has ls 3 [(0, .ref (o 0))] := hl
  obtain ⟨H, hH⟩ : ∃ H, H = s.heap := ⟨_, rfl⟩
  obtain ⟨locs, hlocs⟩ : ∃ q : List Loc, q = [] := ⟨_, rfl⟩
  have hP : va_P D vwCl ([(o 0, .inr (7, [.ref (x 0), .ref (tq 0), .ref rd, .ref (q 0), .ref (tr 0), .ref (pz 0), .ref (o 1), .ref (o 2), .ref (sz 0)]))] ++ ((dyW k q t g X) ++ ((dyW k tr tt gg XX) ++ (siW k sz n c_ m_)))) H := by rw [hH]; exact hP
  have hS : va_S A s.heap H locs := by rw [hH, hlocs]; exact hS
  rw [← hlocs]
  suffices hgoal : W p l e ({ frames := 5, cells := 0, slots := 0, locals := 170 }) s m ([.ref (o 0)] : List Value).toArray below meth c H locs 0 0 Q (F0 m 0 ls []) by rw [hH] at hgoal; exact hgoal
  clear hH hlocs
  obtain ⟨⟨a1, a2, a3, a4, a5, a6⟩, b1, b2, b3, b4, b6, b7, b8, b9⟩ := id hok
  refine ta_iconst C 0 dX7_wound_0 (by decide) ?_
  refine lv_istore_n (lv' := [(1, .int (nI 0)), (0, .ref (o 0))]) hx hb dX7_wound_1 rfl hl (by decide) rfl (fun ls hl => ?_)
  refine ta_iconst C 0 dX7_wound_2 (by decide) ?_
  refine lv_istore_n (lv' := [(2, .int (nI 0)), (1, .int (nI 0)), (0, .ref (o 0))]) hx hb dX7_wound_3 rfl hl (by decide) rfl (fun ls hl => ?_)
  have loop_4 : ∀ (N_4 : Nat) (kx : Nat) (t1 : Nat → Nat) (g1 : Nat → Nat) (X1 : Nat → Nat → Nat), (kx ≤ 9) → 9 - kx < N_4 → ∀ (H : Heap) (locs : List Loc) (ls : Array Slot), va_P D vwCl ([(o 0, .inr (7, [.ref (x 0), .ref (tq 0), .ref rd, .ref (q 0), .ref (tr 0), .ref (pz 0), .ref (o 1), .ref (o 2), .ref (sz 0)]))] ++ ((dyW k q t g X) ++ ((dyW k tr t1 g1 X1) ++ (siW k sz n c_ m_)))) H → va_D A ([(o 0, .inr (7, [.ref (x 0), .ref (tq 0), .ref rd, .ref (q 0), .ref (tr 0), .ref (pz 0), .ref (o 1), .ref (o 2), .ref (sz 0)]))] ++ ((dyW k q t g X) ++ ((dyW k tr t1 g1 X1) ++ (siW k sz n c_ m_)))) → va_S A s.heap H locs → lv_has ls 3 [(2, .int (nI kx)), (1, .int (nI (tg_wo t g n c_ m_ kx))), (0, .ref (o 0))] → W p l e ({ frames := 5, cells := 0, slots := 0, locals := 170 }) s m ([.ref (o 0)] : List Value).toArray below meth c H locs 0 0 Q (F0 m 4 ls []) := by
    clear hP hD hS hl
    intro N_4
    induction N_4 with
    | zero =>
      intro kx t1 g1 X1 h1 hf_4
      exact absurd hf_4 (Nat.not_lt_zero _)
    | succ N_4 ih_4 =>
      intro kx t1 g1 X1 h1 hf_4 H locs ls hP hD hS hl
      refine lv_iload_n hx hb dX7_wound_4 rfl (lv_at hl 0 rfl) ?_
      refine ta_bipush C 8 dX7_wound_5 (by decide) ?_
      refine ta_cgt C (a := kx) (b := 8) (tgt := 55) (by omega) (by omega) dX7_wound_7 (by decide) (fun c1 => ?_) (fun c1 => ?_)
      · refine lv_iload_n hx hb dX7_wound_55 rfl (lv_at hl 1 rfl) ?_
        exact ret (nI (tg_wo t g n c_ m_ kx)) (t1, g1, X1) dX7_wound_56 rfl (by rw [show kx = 9 by omega]; rfl) hP hD hS
      · refine lv_aload_n hx hb dX7_wound_10 rfl (lv_at hl 2 rfl) ?_
        refine ta_get C hP 0 inlX7 rfl rfl 4 (by decide) tw_28 rfl dX7_wound_11 ?_
        refine lv_aload_n hx hb dX7_wound_14 rfl (lv_at hl 2 rfl) ?_
        refine ta_get C hP 0 inlX7 rfl rfl 3 (by decide) tw_27 rfl dX7_wound_15 ?_
        refine ta_callVv (As := [.ref (q 0)]) (rest0 := []) (Wr := ([(o 0, .inr (7, [.ref (x 0), .ref (tq 0), .ref rd, .ref (q 0), .ref (tr 0), .ref (pz 0), .ref (o 1), .ref (o 2), .ref (sz 0)]))] ++ (siW k sz n c_ m_))) C hP hD hS (c_X0_copyFrom l D k tr t1 g1 X1 q t g X b6 b7 hX) 12 rfl rfl rfl [12, 13, 14, 15, 16, 17, 18, 19, 20, 21, 22, 1, 2, 3, 4, 5, 6, 7, 8, 9, 10, 11] [0, 23, 24, 25] rfl rfl (by decide) (by decide) (by decide) tw_434 tw_536 tw_26 tw_432 tw_433 ⟨by decide, by decide, rfl⟩ ⟨Nat.le_of_ble_eq_true rfl, Nat.le_of_ble_eq_true rfl⟩ ⟨Nat.zero_le _, Nat.zero_le _⟩ hl.1 rfl (Nat.le_of_ble_eq_true rfl) dX7_wound_18 (fun u3 H locs h4 hP hD hS => ?_)
        obtain ⟨u_5, hu0⟩ : ∃ z, z = u3 := ⟨_, rfl⟩
        subst hu0
        have hX6 := h4
        have hP : va_P D vwCl ([(o 0, .inr (7, [.ref (x 0), .ref (tq 0), .ref rd, .ref (q 0), .ref (tr 0), .ref (pz 0), .ref (o 1), .ref (o 2), .ref (sz 0)]))] ++ ((siW k sz n c_ m_) ++ ((dyW k tr t g u_5) ++ (dyW k q t g X)))) H := hP
        have hD : va_D A ([(o 0, .inr (7, [.ref (x 0), .ref (tq 0), .ref rd, .ref (q 0), .ref (tr 0), .ref (pz 0), .ref (o 1), .ref (o 2), .ref (sz 0)]))] ++ ((siW k sz n c_ m_) ++ ((dyW k tr t g u_5) ++ (dyW k q t g X)))) := hD
        refine lv_aload_n hx hb dX7_wound_21 rfl (lv_at hl 2 rfl) ?_
        refine ta_get C hP 0 inlX7 rfl rfl 4 (by decide) tw_28 rfl dX7_wound_22 ?_
        refine lv_iload_n hx hb dX7_wound_25 rfl (lv_at hl 0 rfl) ?_
        refine ta_callVv (As := [.int (nI kx)]) (rest0 := []) (Wr := ([(o 0, .inr (7, [.ref (x 0), .ref (tq 0), .ref rd, .ref (q 0), .ref (tr 0), .ref (pz 0), .ref (o 1), .ref (o 2), .ref (sz 0)]))] ++ ((siW k sz n c_ m_) ++ (dyW k q t g X)))) C hP hD hS (c_X0_windOn l D k tr t g u_5 kx (by omega) (by omega)) 4 rfl rfl rfl [4, 5, 6, 7, 8, 9, 10, 11, 12, 13, 14] [0, 1, 2, 3, 15, 16, 17, 18, 19, 20, 21, 22, 23, 24, 25] rfl rfl (by decide) (by decide) (by decide) tw_468 tw_511 tw_26 tw_466 tw_467 ⟨by decide, by decide, rfl⟩ ⟨Nat.le_of_ble_eq_true rfl, Nat.le_of_ble_eq_true rfl⟩ ⟨Nat.zero_le _, Nat.zero_le _⟩ hl.1 rfl (Nat.le_of_ble_eq_true rfl) dX7_wound_26 (fun u8 H locs h9 hP hD hS => ?_)
        have hP : va_P D vwCl ([(o 0, .inr (7, [.ref (x 0), .ref (tq 0), .ref rd, .ref (q 0), .ref (tr 0), .ref (pz 0), .ref (o 1), .ref (o 2), .ref (sz 0)]))] ++ ((siW k sz n c_ m_) ++ ((dyW k q t g X) ++ (dyW k tr t (tg_wind t g kx) u_5)))) H := hP
        have hD : va_D A ([(o 0, .inr (7, [.ref (x 0), .ref (tq 0), .ref rd, .ref (q 0), .ref (tr 0), .ref (pz 0), .ref (o 1), .ref (o 2), .ref (sz 0)]))] ++ ((siW k sz n c_ m_) ++ ((dyW k q t g X) ++ (dyW k tr t (tg_wind t g kx) u_5)))) := hD
        refine lv_aload_n hx hb dX7_wound_29 rfl (lv_at hl 2 rfl) ?_
        refine ta_get C hP 0 inlX7 rfl rfl 8 (by decide) tw_39 rfl dX7_wound_30 ?_
        refine lv_aload_n hx hb dX7_wound_33 rfl (lv_at hl 2 rfl) ?_
        refine ta_get C hP 0 inlX7 rfl rfl 4 (by decide) tw_28 rfl dX7_wound_34 ?_
        refine ta_callVi (As := [.ref (tr 0)]) (rest0 := []) (Wr := ([(o 0, .inr (7, [.ref (x 0), .ref (tq 0), .ref rd, .ref (q 0), .ref (tr 0), .ref (pz 0), .ref (o 1), .ref (o 2), .ref (sz 0)]))] ++ (dyW k q t g X))) C hP hD hS (c_X5_areSoIn l D k sz n c_ m_ tr t (tg_wind t g kx) u_5 hn6 hm hm1 hcs (tg_ok_wind _ hok) (by have := @tg_wind_0 t g kx; omega) (tg_Xk (fun j h1 h2 => tg_wind_k (by omega) (by omega)) hok hX6)) 1 rfl rfl rfl [1, 2, 3, 15, 16, 17, 18, 19, 20, 21, 22, 23, 24, 25] [0, 4, 5, 6, 7, 8, 9, 10, 11, 12, 13, 14] rfl rfl (by decide) (by decide) (by decide) tw_616 tw_613 tw_38 tw_614 tw_615 ⟨by decide, by decide, rfl⟩ ⟨Nat.le_of_ble_eq_true rfl, Nat.le_of_ble_eq_true rfl⟩ ⟨Nat.zero_le _, Nat.zero_le _⟩ hl.1 rfl (Nat.le_of_ble_eq_true rfl) dX7_wound_37 (fun r10 u11 H locs h12 hP hD hS => ?_)
        rcases h12 with h0 | h0
        · obtain ⟨u1_13, u2_14⟩ := u11
          try dsimp only at h0
          obtain ⟨hso15, rfl⟩ := h0
          have hP : va_P D vwCl ([(o 0, .inr (7, [.ref (x 0), .ref (tq 0), .ref rd, .ref (q 0), .ref (tr 0), .ref (pz 0), .ref (o 1), .ref (o 2), .ref (sz 0)]))] ++ ((dyW k q t g X) ++ ((siW k sz n c_ m_) ++ (dyW k tr t u1_13 u2_14)))) H := hP
          have hD : va_D A ([(o 0, .inr (7, [.ref (x 0), .ref (tq 0), .ref rd, .ref (q 0), .ref (tr 0), .ref (pz 0), .ref (o 1), .ref (o 2), .ref (sz 0)]))] ++ ((dyW k q t g X) ++ ((siW k sz n c_ m_) ++ (dyW k tr t u1_13 u2_14)))) := hD
          refine lv_if_eq (tgt := 49) hx hb dX7_wound_40 (by decide) (fun c16 => ?_) (fun c16 => ?_)
          · exact absurd c16 (by decide)
          · have hwb := tg_wo_b t g n c_ m_ kx
            have hwb2 := ta_p9 (by omega) hwb
            refine lv_iload_n hx hb dX7_wound_43 rfl (lv_at hl 1 rfl) ?_
            refine ta_iconst C 1 dX7_wound_44 (by decide) ?_
            refine lv_iload_n hx hb dX7_wound_45 rfl (lv_at hl 0 rfl) ?_
            refine lv_ishl hx hb dX7_wound_46 ?_
            refine ta_val (y := nI (2 ^ kx)) (ta_shl1 _ (by omega)) ?_
            refine lv_ior hx hb dX7_wound_47 ?_
            refine ta_val (y := nI ((tg_wo t g n c_ m_ kx) + 2 ^ kx)) (ta_or1 _ (by first | assumption | omega) _ (by first | assumption | omega)) ?_
            refine lv_istore_n (lv' := [(1, .int (nI ((tg_wo t g n c_ m_ kx) + 2 ^ kx))), (2, .int (nI kx)), (0, .ref (o 0))]) hx hb dX7_wound_48 rfl hl (by decide) rfl (fun ls hl => ?_)
            refine lv_iinc (v := nI (kx + 1)) (lv' := [(2, .int (nI (kx + 1))), (1, .int (nI ((tg_wo t g n c_ m_ kx) + 2 ^ kx))), (0, .ref (o 0))]) hx hb dX7_wound_49 hl (k := 1) rfl (ta_inc1 _) (by decide) rfl (fun ls hl => ?_)
            refine lv_goto (tgt := 4) hx hb dX7_wound_52 (by decide) ?_
            rw [← tg_wo_y hso15] at hl
            exact ih_4 (kx + 1) t u1_13 u2_14 (by omega) (by omega) _ _ _ (hP.sub [0, 1, 2, 3, 4, 5, 6, 7, 8, 9, 10, 11, 15, 16, 17, 18, 19, 20, 21, 22, 23, 24, 25, 12, 13, 14] rfl) (hD.sub [0, 1, 2, 3, 4, 5, 6, 7, 8, 9, 10, 11, 15, 16, 17, 18, 19, 20, 21, 22, 23, 24, 25, 12, 13, 14] (by decide) rfl) hS (lv_sub hl [0, 1, 2] rfl)
        · obtain ⟨u1_17, u2_18⟩ := u11
          try dsimp only at h0
          obtain ⟨hso19, rfl⟩ := h0
          have hP : va_P D vwCl ([(o 0, .inr (7, [.ref (x 0), .ref (tq 0), .ref rd, .ref (q 0), .ref (tr 0), .ref (pz 0), .ref (o 1), .ref (o 2), .ref (sz 0)]))] ++ ((dyW k q t g X) ++ ((siW k sz n c_ m_) ++ (dyW k tr t u1_17 u2_18)))) H := hP
          have hD : va_D A ([(o 0, .inr (7, [.ref (x 0), .ref (tq 0), .ref rd, .ref (q 0), .ref (tr 0), .ref (pz 0), .ref (o 1), .ref (o 2), .ref (sz 0)]))] ++ ((dyW k q t g X) ++ ((siW k sz n c_ m_) ++ (dyW k tr t u1_17 u2_18)))) := hD
          refine lv_if_eq (tgt := 49) hx hb dX7_wound_40 (by decide) (fun c20 => ?_) (fun c20 => ?_)
          · refine lv_iinc (v := nI (kx + 1)) (lv' := [(2, .int (nI (kx + 1))), (1, .int (nI (tg_wo t g n c_ m_ kx))), (0, .ref (o 0))]) hx hb dX7_wound_49 hl (k := 0) rfl (ta_inc1 _) (by decide) rfl (fun ls hl => ?_)
            refine lv_goto (tgt := 4) hx hb dX7_wound_52 (by decide) ?_
            rw [← tg_wo_n hso19] at hl
            exact ih_4 (kx + 1) t u1_17 u2_18 (by omega) (by omega) _ _ _ (hP.sub [0, 1, 2, 3, 4, 5, 6, 7, 8, 9, 10, 11, 15, 16, 17, 18, 19, 20, 21, 22, 23, 24, 25, 12, 13, 14] rfl) (hD.sub [0, 1, 2, 3, 4, 5, 6, 7, 8, 9, 10, 11, 15, 16, 17, 18, 19, 20, 21, 22, 23, 24, 25, 12, 13, 14] (by decide) rfl) hS (lv_sub hl [0, 1, 2] rfl)
          · exact absurd c20 (by decide)
  exact loop_4 ((9 - 0) + 1) 0 tt gg XX (by omega) (Nat.lt_succ_self _) _ _ _ hP hD hS (lv_sub hl [0, 1, 2] rfl)

set_option maxHeartbeats 4000000 in
set_option maxRecDepth 100000 in
theorem c_X7_wouldExplain (l : Launch) (D : va_G) (k : ta_C) (o : Nat → Nat) (x : Nat → Nat) (tq : Nat → Nat) (rd : Nat) (q : Nat → Nat) (tr : Nat → Nat) (pz : Nat → Nat) (sz : Nat → Nat) (t : Nat → Nat) (g : Nat → Nat) (X : Nat → Nat → Nat) (tt : Nat → Nat) (gg : Nat → Nat) (XX : Nat → Nat → Nat) (n : Nat) (c_ : Nat → Nat) (m_ : Nat → Nat) (a : Nat) (kd : Nat) (mi : Nat) (hok : tg_ok t g) (hh0 : g 0 < 1000000) (hX : tg_X g X) (hn6 : n ≤ 6) (hm : ∀ j, j < n → m_ j ≤ 60) (hm1 : ∀ j, j < n → 1 ≤ m_ j) (hcs : ∀ j, j < n → c_ j < 36) (ha : a < 2) (hkd : kd < 5) (hmi : 1 ≤ mi ∧ mi ≤ 9) : ta_Mi (S := (Nat → Nat) × (Nat → Nat) × (Nat → Nat → Nat)) l D k yX7_wouldExplain cX7_wouldExplain 4 .boolean 5 170 [.ref (o 0), .int (nI a), .int (nI kd), .int (nI mi)] ([(o 0, .inr (7, [.ref (x 0), .ref (tq 0), .ref rd, .ref (q 0), .ref (tr 0), .ref (pz 0), .ref (o 1), .ref (o 2), .ref (sz 0)]))] ++ ((dyW k q t g X) ++ ((dyW k tr tt gg XX) ++ (siW k sz n c_ m_)))) (fun r _ => (tg_so t (tg_rep g a (10 * kd + mi)) n c_ m_ ∧ r = nI 1) ∨ (¬ tg_so t (tg_rep g a (10 * kd + mi)) n c_ m_ ∧ r = nI 0)) (fun u => ([(o 0, .inr (7, [.ref (x 0), .ref (tq 0), .ref rd, .ref (q 0), .ref (tr 0), .ref (pz 0), .ref (o 1), .ref (o 2), .ref (sz 0)]))] ++ ((dyW k q t g X) ++ ((dyW k tr u.1 u.2.1 u.2.2) ++ (siW k sz n c_ m_))))) := by
  refine ta_enter_i (by decide) (Nat.le_of_ble_eq_true rfl) ?_
  intro p e s m below meth c A ls Q C ret hP hD hS hl
  have C : ta_At p l D k s m ([.ref (o 0), .int (nI a), .int (nI kd), .int (nI mi)] : List Value).toArray c RX7 cX7_wouldExplain 4 A := C
  have hx := C.1.1
  have hb := C.1.2.1
  have hl : lv_has ls 4 [(0, .ref (o 0)), (1, .int (nI a)), (2, .int (nI kd)), (3, .int (nI mi))] := hl
  obtain ⟨H, hH⟩ : ∃ H, H = s.heap := ⟨_, rfl⟩
  obtain ⟨locs, hlocs⟩ : ∃ q : List Loc, q = [] := ⟨_, rfl⟩
  have hP : va_P D vwCl ([(o 0, .inr (7, [.ref (x 0), .ref (tq 0), .ref rd, .ref (q 0), .ref (tr 0), .ref (pz 0), .ref (o 1), .ref (o 2), .ref (sz 0)]))] ++ ((dyW k q t g X) ++ ((dyW k tr tt gg XX) ++ (siW k sz n c_ m_)))) H := by rw [hH]; exact hP
  have hS : va_S A s.heap H locs := by rw [hH, hlocs]; exact hS
  rw [← hlocs]
  suffices hgoal : W p l e ({ frames := 5, cells := 0, slots := 0, locals := 170 }) s m ([.ref (o 0), .int (nI a), .int (nI kd), .int (nI mi)] : List Value).toArray below meth c H locs 0 0 Q (F0 m 0 ls []) by rw [hH] at hgoal; exact hgoal
  clear hH hlocs
  obtain ⟨⟨a1, a2, a3, a4, a5, a6⟩, b1, b2, b3, b4, b6, b7, b8, b9⟩ := id hok
  rcases (show a = 0 ∨ a = 1 by omega) with rfl | rfl
  · refine lv_aload_n hx hb dX7_wouldExplain_0 rfl (lv_at hl 0 rfl) ?_
    refine ta_get C hP 0 inlX7 rfl rfl 4 (by decide) tw_28 rfl dX7_wouldExplain_1 ?_
    refine lv_aload_n hx hb dX7_wouldExplain_4 rfl (lv_at hl 0 rfl) ?_
    refine ta_get C hP 0 inlX7 rfl rfl 3 (by decide) tw_27 rfl dX7_wouldExplain_5 ?_
    refine ta_callVv (As := [.ref (q 0)]) (rest0 := []) (Wr := ([(o 0, .inr (7, [.ref (x 0), .ref (tq 0), .ref rd, .ref (q 0), .ref (tr 0), .ref (pz 0), .ref (o 1), .ref (o 2), .ref (sz 0)]))] ++ (siW k sz n c_ m_))) C hP hD hS (c_X0_copyFrom l D k tr tt gg XX q t g X b6 b7 hX) 12 rfl rfl rfl [12, 13, 14, 15, 16, 17, 18, 19, 20, 21, 22, 1, 2, 3, 4, 5, 6, 7, 8, 9, 10, 11] [0, 23, 24, 25] rfl rfl (by decide) (by decide) (by decide) tw_434 tw_536 tw_26 tw_432 tw_433 ⟨by decide, by decide, rfl⟩ ⟨Nat.le_of_ble_eq_true rfl, Nat.le_of_ble_eq_true rfl⟩ ⟨Nat.zero_le _, Nat.zero_le _⟩ hl.1 rfl (Nat.le_of_ble_eq_true rfl) dX7_wouldExplain_8 (fun u2 H locs h3 hP hD hS => ?_)
    obtain ⟨u_4, hu0⟩ : ∃ z, z = u2 := ⟨_, rfl⟩
    subst hu0
    have hX5 := h3
    have hP : va_P D vwCl ([(o 0, .inr (7, [.ref (x 0), .ref (tq 0), .ref rd, .ref (q 0), .ref (tr 0), .ref (pz 0), .ref (o 1), .ref (o 2), .ref (sz 0)]))] ++ ((siW k sz n c_ m_) ++ ((dyW k tr t g u_4) ++ (dyW k q t g X)))) H := hP
    have hD : va_D A ([(o 0, .inr (7, [.ref (x 0), .ref (tq 0), .ref rd, .ref (q 0), .ref (tr 0), .ref (pz 0), .ref (o 1), .ref (o 2), .ref (sz 0)]))] ++ ((siW k sz n c_ m_) ++ ((dyW k tr t g u_4) ++ (dyW k q t g X)))) := hD
    refine lv_aload_n hx hb dX7_wouldExplain_11 rfl (lv_at hl 0 rfl) ?_
    refine ta_get C hP 0 inlX7 rfl rfl 4 (by decide) tw_28 rfl dX7_wouldExplain_12 ?_
    refine ta_getN C hP 4 inlX0 rfl rfl 13 (by decide) 36 rfl rfl dX7_wouldExplain_15 ?_
    refine lv_iload_n hx hb dX7_wouldExplain_18 rfl (lv_at hl 1 rfl) ?_
    refine ta_aald C hP 8 2 rfl rfl (i := 0) (x := tr 5) (by omega) rfl dX7_wouldExplain_19 ?_
    refine lv_iload_n hx hb dX7_wouldExplain_20 rfl (lv_at hl 2 rfl) ?_
    refine lv_iload_n hx hb dX7_wouldExplain_21 rfl (lv_at hl 3 rfl) ?_
    refine ta_callVv (As := [.int (nI kd), .int (nI mi)]) (rest0 := []) (Wr := ([(o 0, .inr (7, [.ref (x 0), .ref (tq 0), .ref rd, .ref (q 0), .ref (tr 0), .ref (pz 0), .ref (o 1), .ref (o 2), .ref (sz 0)]))] ++ ((siW k sz n c_ m_) ++ ([(tr 0, .inr (0, [.int (nI (t 0)), .int (nI (t 1)), .int (nI (t 2)), .int (nI (g 0)), .int (nI (g 1)), .int (nI (g 2 / t 0)), .int (nI (g 2 % t 0)), .int (nI (g 3)), .int (nI (g 4)), .int (nI (g 5)), .ref (tr 1), .ref (tr 2), .ref (tr 3), .ref (tr 4)])), (tr 1, .inl (k.1 0, 36, .inl (ta_e (tg_mud g)))), (tr 2, .inl (k.1 0, 4, .inl (ta_e (tg_wal g)))), (tr 3, .inl (k.1 0, 2, .inl (ta_e (tg_kne g)))), (tr 4, .inl (k.1 2, 2, .inr (.inr (.inr (.inr (ta_dr (tr 5) (tr 8))))))), (tr 8, .inr (1, [.ref (tr 9), .ref (tr 10), .int (nI (g 7))])), (tr 9, .inl (k.1 0, 8, .inl (ta_e (u_4 2)))), (tr 10, .inl (k.1 0, 8, .inl (ta_e (u_4 3))))] ++ (dyW k q t g X))))) C hP hD hS (c_X1_replaceNext l D k (tr 5) (tr 6) (tr 7) (u_4 0) (u_4 1) (g 6) kd mi) 9 rfl rfl rfl [9, 10, 11] [0, 1, 2, 3, 4, 5, 6, 7, 8, 12, 13, 14, 15, 16, 17, 18, 19, 20, 21, 22, 23, 24, 25] rfl rfl (by decide) (by decide) (by decide) tw_649 tw_646 tw_56 tw_647 tw_648 ⟨by decide, by decide, rfl⟩ ⟨Nat.le_of_ble_eq_true rfl, Nat.le_of_ble_eq_true rfl⟩ ⟨Nat.zero_le _, Nat.zero_le _⟩ hl.1 rfl (Nat.le_of_ble_eq_true rfl) dX7_wouldExplain_22 (fun u7 H locs h8 hP hD hS => ?_)
    have hP : va_P D vwCl ([(o 0, .inr (7, [.ref (x 0), .ref (tq 0), .ref rd, .ref (q 0), .ref (tr 0), .ref (pz 0), .ref (o 1), .ref (o 2), .ref (sz 0)]))] ++ ((siW k sz n c_ m_) ++ ([(tr 0, .inr (0, [.int (nI (t 0)), .int (nI (t 1)), .int (nI (t 2)), .int (nI (g 0)), .int (nI (g 1)), .int (nI (g 2 / t 0)), .int (nI (g 2 % t 0)), .int (nI (g 3)), .int (nI (g 4)), .int (nI (g 5)), .ref (tr 1), .ref (tr 2), .ref (tr 3), .ref (tr 4)])), (tr 1, .inl (k.1 0, 36, .inl (ta_e (tg_mud g)))), (tr 2, .inl (k.1 0, 4, .inl (ta_e (tg_wal g)))), (tr 3, .inl (k.1 0, 2, .inl (ta_e (tg_kne g)))), (tr 4, .inl (k.1 2, 2, .inr (.inr (.inr (.inr (ta_dr (tr 5) (tr 8))))))), (tr 8, .inr (1, [.ref (tr 9), .ref (tr 10), .int (nI (g 7))])), (tr 9, .inl (k.1 0, 8, .inl (ta_e (u_4 2)))), (tr 10, .inl (k.1 0, 8, .inl (ta_e (u_4 3))))] ++ ((dyW k q t g X) ++ [(tr 5, .inr (1, [.ref (tr 6), .ref (tr 7), .int (nI (g 6))])), (tr 6, .inl (k.1 0, 8, .inl (ta_e (ta_u (u_4 0) 0 kd)))), (tr 7, .inl (k.1 0, 8, .inl (ta_e (ta_u (u_4 1) 0 mi))))])))) H := hP
    have hD : va_D A ([(o 0, .inr (7, [.ref (x 0), .ref (tq 0), .ref rd, .ref (q 0), .ref (tr 0), .ref (pz 0), .ref (o 1), .ref (o 2), .ref (sz 0)]))] ++ ((siW k sz n c_ m_) ++ ([(tr 0, .inr (0, [.int (nI (t 0)), .int (nI (t 1)), .int (nI (t 2)), .int (nI (g 0)), .int (nI (g 1)), .int (nI (g 2 / t 0)), .int (nI (g 2 % t 0)), .int (nI (g 3)), .int (nI (g 4)), .int (nI (g 5)), .ref (tr 1), .ref (tr 2), .ref (tr 3), .ref (tr 4)])), (tr 1, .inl (k.1 0, 36, .inl (ta_e (tg_mud g)))), (tr 2, .inl (k.1 0, 4, .inl (ta_e (tg_wal g)))), (tr 3, .inl (k.1 0, 2, .inl (ta_e (tg_kne g)))), (tr 4, .inl (k.1 2, 2, .inr (.inr (.inr (.inr (ta_dr (tr 5) (tr 8))))))), (tr 8, .inr (1, [.ref (tr 9), .ref (tr 10), .int (nI (g 7))])), (tr 9, .inl (k.1 0, 8, .inl (ta_e (u_4 2)))), (tr 10, .inl (k.1 0, 8, .inl (ta_e (u_4 3))))] ++ ((dyW k q t g X) ++ [(tr 5, .inr (1, [.ref (tr 6), .ref (tr 7), .int (nI (g 6))])), (tr 6, .inl (k.1 0, 8, .inl (ta_e (ta_u (u_4 0) 0 kd)))), (tr 7, .inl (k.1 0, 8, .inl (ta_e (ta_u (u_4 1) 0 mi))))])))) := hD
    have hP : va_P D vwCl ([(tr 0, .inr (0, [.int (nI (t 0)), .int (nI (t 1)), .int (nI (t 2)), .int (nI (g 0)), .int (nI (g 1)), .int (nI (g 2 / t 0)), .int (nI (g 2 % t 0)), .int (nI (g 3)), .int (nI (g 4)), .int (nI (g 5)), .ref (tr 1), .ref (tr 2), .ref (tr 3), .ref (tr 4)])), (tr 1, .inl (k.1 0, 36, .inl (ta_e (tg_mud g)))), (tr 2, .inl (k.1 0, 4, .inl (ta_e (tg_wal g)))), (tr 3, .inl (k.1 0, 2, .inl (ta_e (tg_kne g)))), (tr 4, .inl (k.1 2, 2, .inr (.inr (.inr (.inr (ta_dr (tr 5) (tr 8))))))), (tr 5, .inr (1, [.ref (tr 6), .ref (tr 7), .int (nI (g 6))])), (tr 6, .inl (k.1 0, 8, .inl (ta_e (ta_u (u_4 0) 0 kd)))), (tr 7, .inl (k.1 0, 8, .inl (ta_e (ta_u (u_4 1) 0 mi)))), (tr 8, .inr (1, [.ref (tr 9), .ref (tr 10), .int (nI (g 7))])), (tr 9, .inl (k.1 0, 8, .inl (ta_e (u_4 2)))), (tr 10, .inl (k.1 0, 8, .inl (ta_e (u_4 3)))), (o 0, .inr (7, [.ref (x 0), .ref (tq 0), .ref rd, .ref (q 0), .ref (tr 0), .ref (pz 0), .ref (o 1), .ref (o 2), .ref (sz 0)]))] ++ ((siW k sz n c_ m_) ++ (dyW k q t g X))) H := hP.sub [4, 5, 6, 7, 8, 23, 24, 25, 9, 10, 11, 0, 1, 2, 3, 12, 13, 14, 15, 16, 17, 18, 19, 20, 21, 22] rfl
    have hD : va_D A ([(tr 0, .inr (0, [.int (nI (t 0)), .int (nI (t 1)), .int (nI (t 2)), .int (nI (g 0)), .int (nI (g 1)), .int (nI (g 2 / t 0)), .int (nI (g 2 % t 0)), .int (nI (g 3)), .int (nI (g 4)), .int (nI (g 5)), .ref (tr 1), .ref (tr 2), .ref (tr 3), .ref (tr 4)])), (tr 1, .inl (k.1 0, 36, .inl (ta_e (tg_mud g)))), (tr 2, .inl (k.1 0, 4, .inl (ta_e (tg_wal g)))), (tr 3, .inl (k.1 0, 2, .inl (ta_e (tg_kne g)))), (tr 4, .inl (k.1 2, 2, .inr (.inr (.inr (.inr (ta_dr (tr 5) (tr 8))))))), (tr 5, .inr (1, [.ref (tr 6), .ref (tr 7), .int (nI (g 6))])), (tr 6, .inl (k.1 0, 8, .inl (ta_e (ta_u (u_4 0) 0 kd)))), (tr 7, .inl (k.1 0, 8, .inl (ta_e (ta_u (u_4 1) 0 mi)))), (tr 8, .inr (1, [.ref (tr 9), .ref (tr 10), .int (nI (g 7))])), (tr 9, .inl (k.1 0, 8, .inl (ta_e (u_4 2)))), (tr 10, .inl (k.1 0, 8, .inl (ta_e (u_4 3)))), (o 0, .inr (7, [.ref (x 0), .ref (tq 0), .ref rd, .ref (q 0), .ref (tr 0), .ref (pz 0), .ref (o 1), .ref (o 2), .ref (sz 0)]))] ++ ((siW k sz n c_ m_) ++ (dyW k q t g X))) := hD.sub [4, 5, 6, 7, 8, 23, 24, 25, 9, 10, 11, 0, 1, 2, 3, 12, 13, 14, 15, 16, 17, 18, 19, 20, 21, 22] (by decide) rfl
    have hPd : va_P D vwCl (dyW k tr t (tg_rep g 0 (10 * kd + mi)) (ta_x4 (ta_u (u_4 0) 0 kd) (ta_u (u_4 1) 0 mi) (u_4 2) (u_4 3))) H := dy_to (q := tr) (t := t) (g := tg_rep g 0 (10 * kd + mi)) ⟨rfl, rfl, rfl, (ta_un (by omega)).symm, (ta_un (by omega)).symm, (by rw [show tg_rep g 0 (10 * kd + mi) 2 = g 2 from ta_un (by omega)]), (by rw [show tg_rep g 0 (10 * kd + mi) 2 = g 2 from ta_un (by omega)]), (ta_un (by omega)).symm, (ta_un (by omega)).symm, (ta_un (by omega)).symm, (ta_un (by omega)).symm, (ta_un (by omega)).symm⟩ (fun j hj => (ta_un (by omega)).symm) (fun j hj => (ta_un (by omega)).symm) (fun j hj => (ta_un (by omega)).symm) (hP.sub [0, 1, 2, 3, 4, 5, 6, 7, 8, 9, 10] rfl)
    have hP : va_P D vwCl ((dyW k tr t (tg_rep g 0 (10 * kd + mi)) (ta_x4 (ta_u (u_4 0) 0 kd) (ta_u (u_4 1) 0 mi) (u_4 2) (u_4 3))) ++ ([(o 0, .inr (7, [.ref (x 0), .ref (tq 0), .ref rd, .ref (q 0), .ref (tr 0), .ref (pz 0), .ref (o 1), .ref (o 2), .ref (sz 0)]))] ++ ((siW k sz n c_ m_) ++ (dyW k q t g X)))) H := ta_Pa hPd (hP.sub [11, 12, 13, 14, 15, 16, 17, 18, 19, 20, 21, 22, 23, 24, 25] rfl)
    have hD : va_D A ((dyW k tr t (tg_rep g 0 (10 * kd + mi)) (ta_x4 (ta_u (u_4 0) 0 kd) (ta_u (u_4 1) 0 mi) (u_4 2) (u_4 3))) ++ ([(o 0, .inr (7, [.ref (x 0), .ref (tq 0), .ref rd, .ref (q 0), .ref (tr 0), .ref (pz 0), .ref (o 1), .ref (o 2), .ref (sz 0)]))] ++ ((siW k sz n c_ m_) ++ (dyW k q t g X)))) := ta_De hD rfl
    have hok2 : tg_ok t (tg_rep g 0 (10 * kd + mi)) := tg_ok_rep hok (by decide) ⟨by omega, by omega⟩
    have e20 : tg_rep g 0 (10 * kd + mi) 0 = g 0 := ta_un (by omega)
    have hXr : tg_X (tg_rep g 0 (10 * kd + mi)) (ta_x4 (ta_u (u_4 0) 0 kd) (ta_u (u_4 1) 0 mi) (u_4 2) (u_4 3)) := tg_X_rep0 b6 (by omega) hX5
    refine lv_aload_n hx hb dX7_wouldExplain_25 rfl (lv_at hl 0 rfl) ?_
    refine ta_get C hP 11 inlX7 rfl rfl 8 (by decide) tw_39 rfl dX7_wouldExplain_26 ?_
    refine lv_aload_n hx hb dX7_wouldExplain_29 rfl (lv_at hl 0 rfl) ?_
    refine ta_get C hP 11 inlX7 rfl rfl 4 (by decide) tw_28 rfl dX7_wouldExplain_30 ?_
    refine ta_callVi (As := [.ref (tr 0)]) (rest0 := []) (Wr := ([(o 0, .inr (7, [.ref (x 0), .ref (tq 0), .ref rd, .ref (q 0), .ref (tr 0), .ref (pz 0), .ref (o 1), .ref (o 2), .ref (sz 0)]))] ++ (dyW k q t g X))) C hP hD hS (c_X5_areSoIn l D k sz n c_ m_ tr t (tg_rep g 0 (10 * kd + mi)) (ta_x4 (ta_u (u_4 0) 0 kd) (ta_u (u_4 1) 0 mi) (u_4 2) (u_4 3)) hn6 hm hm1 hcs hok2 (by omega) hXr) 12 rfl rfl rfl [12, 13, 14, 0, 1, 2, 3, 4, 5, 6, 7, 8, 9, 10] [11, 15, 16, 17, 18, 19, 20, 21, 22, 23, 24, 25] rfl rfl (by decide) (by decide) (by decide) tw_616 tw_613 tw_38 tw_614 tw_615 ⟨by decide, by decide, rfl⟩ ⟨Nat.le_of_ble_eq_true rfl, Nat.le_of_ble_eq_true rfl⟩ ⟨Nat.zero_le _, Nat.zero_le _⟩ hl.1 rfl (Nat.le_of_ble_eq_true rfl) dX7_wouldExplain_33 (fun r9 u10 H locs h11 hP hD hS => ?_)
    rcases h11 with h0 | h0
    · obtain ⟨u1_12, u2_13⟩ := u10
      try dsimp only at h0
      obtain ⟨hso14, rfl⟩ := h0
      have hP : va_P D vwCl ([(o 0, .inr (7, [.ref (x 0), .ref (tq 0), .ref rd, .ref (q 0), .ref (tr 0), .ref (pz 0), .ref (o 1), .ref (o 2), .ref (sz 0)]))] ++ ((dyW k q t g X) ++ ((siW k sz n c_ m_) ++ (dyW k tr t u1_12 u2_13)))) H := hP
      have hD : va_D A ([(o 0, .inr (7, [.ref (x 0), .ref (tq 0), .ref rd, .ref (q 0), .ref (tr 0), .ref (pz 0), .ref (o 1), .ref (o 2), .ref (sz 0)]))] ++ ((dyW k q t g X) ++ ((siW k sz n c_ m_) ++ (dyW k tr t u1_12 u2_13)))) := hD
      exact ret (nI 1) (t, u1_12, u2_13) dX7_wouldExplain_36 (by decide) (Or.inl ⟨hso14, rfl⟩) (hP.sub [0, 1, 2, 3, 4, 5, 6, 7, 8, 9, 10, 11, 15, 16, 17, 18, 19, 20, 21, 22, 23, 24, 25, 12, 13, 14] rfl) (hD.sub [0, 1, 2, 3, 4, 5, 6, 7, 8, 9, 10, 11, 15, 16, 17, 18, 19, 20, 21, 22, 23, 24, 25, 12, 13, 14] (by decide) rfl) hS
    · obtain ⟨u1_15, u2_16⟩ := u10
      try dsimp only at h0
      obtain ⟨hso17, rfl⟩ := h0
      have hP : va_P D vwCl ([(o 0, .inr (7, [.ref (x 0), .ref (tq 0), .ref rd, .ref (q 0), .ref (tr 0), .ref (pz 0), .ref (o 1), .ref (o 2), .ref (sz 0)]))] ++ ((dyW k q t g X) ++ ((siW k sz n c_ m_) ++ (dyW k tr t u1_15 u2_16)))) H := hP
      have hD : va_D A ([(o 0, .inr (7, [.ref (x 0), .ref (tq 0), .ref rd, .ref (q 0), .ref (tr 0), .ref (pz 0), .ref (o 1), .ref (o 2), .ref (sz 0)]))] ++ ((dyW k q t g X) ++ ((siW k sz n c_ m_) ++ (dyW k tr t u1_15 u2_16)))) := hD
      exact ret (nI 0) (t, u1_15, u2_16) dX7_wouldExplain_36 (by decide) (Or.inr ⟨hso17, rfl⟩) (hP.sub [0, 1, 2, 3, 4, 5, 6, 7, 8, 9, 10, 11, 15, 16, 17, 18, 19, 20, 21, 22, 23, 24, 25, 12, 13, 14] rfl) (hD.sub [0, 1, 2, 3, 4, 5, 6, 7, 8, 9, 10, 11, 15, 16, 17, 18, 19, 20, 21, 22, 23, 24, 25, 12, 13, 14] (by decide) rfl) hS
  · refine lv_aload_n hx hb dX7_wouldExplain_0 rfl (lv_at hl 0 rfl) ?_
    refine ta_get C hP 0 inlX7 rfl rfl 4 (by decide) tw_28 rfl dX7_wouldExplain_1 ?_
    refine lv_aload_n hx hb dX7_wouldExplain_4 rfl (lv_at hl 0 rfl) ?_
    refine ta_get C hP 0 inlX7 rfl rfl 3 (by decide) tw_27 rfl dX7_wouldExplain_5 ?_
    refine ta_callVv (As := [.ref (q 0)]) (rest0 := []) (Wr := ([(o 0, .inr (7, [.ref (x 0), .ref (tq 0), .ref rd, .ref (q 0), .ref (tr 0), .ref (pz 0), .ref (o 1), .ref (o 2), .ref (sz 0)]))] ++ (siW k sz n c_ m_))) C hP hD hS (c_X0_copyFrom l D k tr tt gg XX q t g X b6 b7 hX) 12 rfl rfl rfl [12, 13, 14, 15, 16, 17, 18, 19, 20, 21, 22, 1, 2, 3, 4, 5, 6, 7, 8, 9, 10, 11] [0, 23, 24, 25] rfl rfl (by decide) (by decide) (by decide) tw_434 tw_536 tw_26 tw_432 tw_433 ⟨by decide, by decide, rfl⟩ ⟨Nat.le_of_ble_eq_true rfl, Nat.le_of_ble_eq_true rfl⟩ ⟨Nat.zero_le _, Nat.zero_le _⟩ hl.1 rfl (Nat.le_of_ble_eq_true rfl) dX7_wouldExplain_8 (fun u19 H locs h20 hP hD hS => ?_)
    obtain ⟨u_21, hu0⟩ : ∃ z, z = u19 := ⟨_, rfl⟩
    subst hu0
    have hX22 := h20
    have hP : va_P D vwCl ([(o 0, .inr (7, [.ref (x 0), .ref (tq 0), .ref rd, .ref (q 0), .ref (tr 0), .ref (pz 0), .ref (o 1), .ref (o 2), .ref (sz 0)]))] ++ ((siW k sz n c_ m_) ++ ((dyW k tr t g u_21) ++ (dyW k q t g X)))) H := hP
    have hD : va_D A ([(o 0, .inr (7, [.ref (x 0), .ref (tq 0), .ref rd, .ref (q 0), .ref (tr 0), .ref (pz 0), .ref (o 1), .ref (o 2), .ref (sz 0)]))] ++ ((siW k sz n c_ m_) ++ ((dyW k tr t g u_21) ++ (dyW k q t g X)))) := hD
    refine lv_aload_n hx hb dX7_wouldExplain_11 rfl (lv_at hl 0 rfl) ?_
    refine ta_get C hP 0 inlX7 rfl rfl 4 (by decide) tw_28 rfl dX7_wouldExplain_12 ?_
    refine ta_getN C hP 4 inlX0 rfl rfl 13 (by decide) 36 rfl rfl dX7_wouldExplain_15 ?_
    refine lv_iload_n hx hb dX7_wouldExplain_18 rfl (lv_at hl 1 rfl) ?_
    refine ta_aald C hP 8 2 rfl rfl (i := 1) (x := tr 8) (by omega) rfl dX7_wouldExplain_19 ?_
    refine lv_iload_n hx hb dX7_wouldExplain_20 rfl (lv_at hl 2 rfl) ?_
    refine lv_iload_n hx hb dX7_wouldExplain_21 rfl (lv_at hl 3 rfl) ?_
    refine ta_callVv (As := [.int (nI kd), .int (nI mi)]) (rest0 := []) (Wr := ([(o 0, .inr (7, [.ref (x 0), .ref (tq 0), .ref rd, .ref (q 0), .ref (tr 0), .ref (pz 0), .ref (o 1), .ref (o 2), .ref (sz 0)]))] ++ ((siW k sz n c_ m_) ++ ([(tr 0, .inr (0, [.int (nI (t 0)), .int (nI (t 1)), .int (nI (t 2)), .int (nI (g 0)), .int (nI (g 1)), .int (nI (g 2 / t 0)), .int (nI (g 2 % t 0)), .int (nI (g 3)), .int (nI (g 4)), .int (nI (g 5)), .ref (tr 1), .ref (tr 2), .ref (tr 3), .ref (tr 4)])), (tr 1, .inl (k.1 0, 36, .inl (ta_e (tg_mud g)))), (tr 2, .inl (k.1 0, 4, .inl (ta_e (tg_wal g)))), (tr 3, .inl (k.1 0, 2, .inl (ta_e (tg_kne g)))), (tr 4, .inl (k.1 2, 2, .inr (.inr (.inr (.inr (ta_dr (tr 5) (tr 8))))))), (tr 5, .inr (1, [.ref (tr 6), .ref (tr 7), .int (nI (g 6))])), (tr 6, .inl (k.1 0, 8, .inl (ta_e (u_21 0)))), (tr 7, .inl (k.1 0, 8, .inl (ta_e (u_21 1))))] ++ (dyW k q t g X))))) C hP hD hS (c_X1_replaceNext l D k (tr 8) (tr 9) (tr 10) (u_21 2) (u_21 3) (g 7) kd mi) 12 rfl rfl rfl [12, 13, 14] [0, 1, 2, 3, 4, 5, 6, 7, 8, 9, 10, 11, 15, 16, 17, 18, 19, 20, 21, 22, 23, 24, 25] rfl rfl (by decide) (by decide) (by decide) tw_649 tw_646 tw_56 tw_647 tw_648 ⟨by decide, by decide, rfl⟩ ⟨Nat.le_of_ble_eq_true rfl, Nat.le_of_ble_eq_true rfl⟩ ⟨Nat.zero_le _, Nat.zero_le _⟩ hl.1 rfl (Nat.le_of_ble_eq_true rfl) dX7_wouldExplain_22 (fun u24 H locs h25 hP hD hS => ?_)
    have hP : va_P D vwCl ([(o 0, .inr (7, [.ref (x 0), .ref (tq 0), .ref rd, .ref (q 0), .ref (tr 0), .ref (pz 0), .ref (o 1), .ref (o 2), .ref (sz 0)]))] ++ ((siW k sz n c_ m_) ++ ([(tr 0, .inr (0, [.int (nI (t 0)), .int (nI (t 1)), .int (nI (t 2)), .int (nI (g 0)), .int (nI (g 1)), .int (nI (g 2 / t 0)), .int (nI (g 2 % t 0)), .int (nI (g 3)), .int (nI (g 4)), .int (nI (g 5)), .ref (tr 1), .ref (tr 2), .ref (tr 3), .ref (tr 4)])), (tr 1, .inl (k.1 0, 36, .inl (ta_e (tg_mud g)))), (tr 2, .inl (k.1 0, 4, .inl (ta_e (tg_wal g)))), (tr 3, .inl (k.1 0, 2, .inl (ta_e (tg_kne g)))), (tr 4, .inl (k.1 2, 2, .inr (.inr (.inr (.inr (ta_dr (tr 5) (tr 8))))))), (tr 5, .inr (1, [.ref (tr 6), .ref (tr 7), .int (nI (g 6))])), (tr 6, .inl (k.1 0, 8, .inl (ta_e (u_21 0)))), (tr 7, .inl (k.1 0, 8, .inl (ta_e (u_21 1))))] ++ ((dyW k q t g X) ++ [(tr 8, .inr (1, [.ref (tr 9), .ref (tr 10), .int (nI (g 7))])), (tr 9, .inl (k.1 0, 8, .inl (ta_e (ta_u (u_21 2) 0 kd)))), (tr 10, .inl (k.1 0, 8, .inl (ta_e (ta_u (u_21 3) 0 mi))))])))) H := hP
    have hD : va_D A ([(o 0, .inr (7, [.ref (x 0), .ref (tq 0), .ref rd, .ref (q 0), .ref (tr 0), .ref (pz 0), .ref (o 1), .ref (o 2), .ref (sz 0)]))] ++ ((siW k sz n c_ m_) ++ ([(tr 0, .inr (0, [.int (nI (t 0)), .int (nI (t 1)), .int (nI (t 2)), .int (nI (g 0)), .int (nI (g 1)), .int (nI (g 2 / t 0)), .int (nI (g 2 % t 0)), .int (nI (g 3)), .int (nI (g 4)), .int (nI (g 5)), .ref (tr 1), .ref (tr 2), .ref (tr 3), .ref (tr 4)])), (tr 1, .inl (k.1 0, 36, .inl (ta_e (tg_mud g)))), (tr 2, .inl (k.1 0, 4, .inl (ta_e (tg_wal g)))), (tr 3, .inl (k.1 0, 2, .inl (ta_e (tg_kne g)))), (tr 4, .inl (k.1 2, 2, .inr (.inr (.inr (.inr (ta_dr (tr 5) (tr 8))))))), (tr 5, .inr (1, [.ref (tr 6), .ref (tr 7), .int (nI (g 6))])), (tr 6, .inl (k.1 0, 8, .inl (ta_e (u_21 0)))), (tr 7, .inl (k.1 0, 8, .inl (ta_e (u_21 1))))] ++ ((dyW k q t g X) ++ [(tr 8, .inr (1, [.ref (tr 9), .ref (tr 10), .int (nI (g 7))])), (tr 9, .inl (k.1 0, 8, .inl (ta_e (ta_u (u_21 2) 0 kd)))), (tr 10, .inl (k.1 0, 8, .inl (ta_e (ta_u (u_21 3) 0 mi))))])))) := hD
    have hP : va_P D vwCl ([(tr 0, .inr (0, [.int (nI (t 0)), .int (nI (t 1)), .int (nI (t 2)), .int (nI (g 0)), .int (nI (g 1)), .int (nI (g 2 / t 0)), .int (nI (g 2 % t 0)), .int (nI (g 3)), .int (nI (g 4)), .int (nI (g 5)), .ref (tr 1), .ref (tr 2), .ref (tr 3), .ref (tr 4)])), (tr 1, .inl (k.1 0, 36, .inl (ta_e (tg_mud g)))), (tr 2, .inl (k.1 0, 4, .inl (ta_e (tg_wal g)))), (tr 3, .inl (k.1 0, 2, .inl (ta_e (tg_kne g)))), (tr 4, .inl (k.1 2, 2, .inr (.inr (.inr (.inr (ta_dr (tr 5) (tr 8))))))), (tr 5, .inr (1, [.ref (tr 6), .ref (tr 7), .int (nI (g 6))])), (tr 6, .inl (k.1 0, 8, .inl (ta_e (u_21 0)))), (tr 7, .inl (k.1 0, 8, .inl (ta_e (u_21 1)))), (tr 8, .inr (1, [.ref (tr 9), .ref (tr 10), .int (nI (g 7))])), (tr 9, .inl (k.1 0, 8, .inl (ta_e (ta_u (u_21 2) 0 kd)))), (tr 10, .inl (k.1 0, 8, .inl (ta_e (ta_u (u_21 3) 0 mi)))), (o 0, .inr (7, [.ref (x 0), .ref (tq 0), .ref rd, .ref (q 0), .ref (tr 0), .ref (pz 0), .ref (o 1), .ref (o 2), .ref (sz 0)]))] ++ ((siW k sz n c_ m_) ++ (dyW k q t g X))) H := hP.sub [4, 5, 6, 7, 8, 9, 10, 11, 23, 24, 25, 0, 1, 2, 3, 12, 13, 14, 15, 16, 17, 18, 19, 20, 21, 22] rfl
    have hD : va_D A ([(tr 0, .inr (0, [.int (nI (t 0)), .int (nI (t 1)), .int (nI (t 2)), .int (nI (g 0)), .int (nI (g 1)), .int (nI (g 2 / t 0)), .int (nI (g 2 % t 0)), .int (nI (g 3)), .int (nI (g 4)), .int (nI (g 5)), .ref (tr 1), .ref (tr 2), .ref (tr 3), .ref (tr 4)])), (tr 1, .inl (k.1 0, 36, .inl (ta_e (tg_mud g)))), (tr 2, .inl (k.1 0, 4, .inl (ta_e (tg_wal g)))), (tr 3, .inl (k.1 0, 2, .inl (ta_e (tg_kne g)))), (tr 4, .inl (k.1 2, 2, .inr (.inr (.inr (.inr (ta_dr (tr 5) (tr 8))))))), (tr 5, .inr (1, [.ref (tr 6), .ref (tr 7), .int (nI (g 6))])), (tr 6, .inl (k.1 0, 8, .inl (ta_e (u_21 0)))), (tr 7, .inl (k.1 0, 8, .inl (ta_e (u_21 1)))), (tr 8, .inr (1, [.ref (tr 9), .ref (tr 10), .int (nI (g 7))])), (tr 9, .inl (k.1 0, 8, .inl (ta_e (ta_u (u_21 2) 0 kd)))), (tr 10, .inl (k.1 0, 8, .inl (ta_e (ta_u (u_21 3) 0 mi)))), (o 0, .inr (7, [.ref (x 0), .ref (tq 0), .ref rd, .ref (q 0), .ref (tr 0), .ref (pz 0), .ref (o 1), .ref (o 2), .ref (sz 0)]))] ++ ((siW k sz n c_ m_) ++ (dyW k q t g X))) := hD.sub [4, 5, 6, 7, 8, 9, 10, 11, 23, 24, 25, 0, 1, 2, 3, 12, 13, 14, 15, 16, 17, 18, 19, 20, 21, 22] (by decide) rfl
    have hPd : va_P D vwCl (dyW k tr t (tg_rep g 1 (10 * kd + mi)) (ta_x4 (u_21 0) (u_21 1) (ta_u (u_21 2) 0 kd) (ta_u (u_21 3) 0 mi))) H := dy_to (q := tr) (t := t) (g := tg_rep g 1 (10 * kd + mi)) ⟨rfl, rfl, rfl, (ta_un (by omega)).symm, (ta_un (by omega)).symm, (by rw [show tg_rep g 1 (10 * kd + mi) 2 = g 2 from ta_un (by omega)]), (by rw [show tg_rep g 1 (10 * kd + mi) 2 = g 2 from ta_un (by omega)]), (ta_un (by omega)).symm, (ta_un (by omega)).symm, (ta_un (by omega)).symm, (ta_un (by omega)).symm, (ta_un (by omega)).symm⟩ (fun j hj => (ta_un (by omega)).symm) (fun j hj => (ta_un (by omega)).symm) (fun j hj => (ta_un (by omega)).symm) (hP.sub [0, 1, 2, 3, 4, 5, 6, 7, 8, 9, 10] rfl)
    have hP : va_P D vwCl ((dyW k tr t (tg_rep g 1 (10 * kd + mi)) (ta_x4 (u_21 0) (u_21 1) (ta_u (u_21 2) 0 kd) (ta_u (u_21 3) 0 mi))) ++ ([(o 0, .inr (7, [.ref (x 0), .ref (tq 0), .ref rd, .ref (q 0), .ref (tr 0), .ref (pz 0), .ref (o 1), .ref (o 2), .ref (sz 0)]))] ++ ((siW k sz n c_ m_) ++ (dyW k q t g X)))) H := ta_Pa hPd (hP.sub [11, 12, 13, 14, 15, 16, 17, 18, 19, 20, 21, 22, 23, 24, 25] rfl)
    have hD : va_D A ((dyW k tr t (tg_rep g 1 (10 * kd + mi)) (ta_x4 (u_21 0) (u_21 1) (ta_u (u_21 2) 0 kd) (ta_u (u_21 3) 0 mi))) ++ ([(o 0, .inr (7, [.ref (x 0), .ref (tq 0), .ref rd, .ref (q 0), .ref (tr 0), .ref (pz 0), .ref (o 1), .ref (o 2), .ref (sz 0)]))] ++ ((siW k sz n c_ m_) ++ (dyW k q t g X)))) := ta_De hD rfl
    have hok2 : tg_ok t (tg_rep g 1 (10 * kd + mi)) := tg_ok_rep hok (by decide) ⟨by omega, by omega⟩
    have e20 : tg_rep g 1 (10 * kd + mi) 0 = g 0 := ta_un (by omega)
    have hXr : tg_X (tg_rep g 1 (10 * kd + mi)) (ta_x4 (u_21 0) (u_21 1) (ta_u (u_21 2) 0 kd) (ta_u (u_21 3) 0 mi)) := tg_X_rep1 b6 (by omega) hX22
    refine lv_aload_n hx hb dX7_wouldExplain_25 rfl (lv_at hl 0 rfl) ?_
    refine ta_get C hP 11 inlX7 rfl rfl 8 (by decide) tw_39 rfl dX7_wouldExplain_26 ?_
    refine lv_aload_n hx hb dX7_wouldExplain_29 rfl (lv_at hl 0 rfl) ?_
    refine ta_get C hP 11 inlX7 rfl rfl 4 (by decide) tw_28 rfl dX7_wouldExplain_30 ?_
    refine ta_callVi (As := [.ref (tr 0)]) (rest0 := []) (Wr := ([(o 0, .inr (7, [.ref (x 0), .ref (tq 0), .ref rd, .ref (q 0), .ref (tr 0), .ref (pz 0), .ref (o 1), .ref (o 2), .ref (sz 0)]))] ++ (dyW k q t g X))) C hP hD hS (c_X5_areSoIn l D k sz n c_ m_ tr t (tg_rep g 1 (10 * kd + mi)) (ta_x4 (u_21 0) (u_21 1) (ta_u (u_21 2) 0 kd) (ta_u (u_21 3) 0 mi)) hn6 hm hm1 hcs hok2 (by omega) hXr) 12 rfl rfl rfl [12, 13, 14, 0, 1, 2, 3, 4, 5, 6, 7, 8, 9, 10] [11, 15, 16, 17, 18, 19, 20, 21, 22, 23, 24, 25] rfl rfl (by decide) (by decide) (by decide) tw_616 tw_613 tw_38 tw_614 tw_615 ⟨by decide, by decide, rfl⟩ ⟨Nat.le_of_ble_eq_true rfl, Nat.le_of_ble_eq_true rfl⟩ ⟨Nat.zero_le _, Nat.zero_le _⟩ hl.1 rfl (Nat.le_of_ble_eq_true rfl) dX7_wouldExplain_33 (fun r26 u27 H locs h28 hP hD hS => ?_)
    rcases h28 with h0 | h0
    · obtain ⟨u1_29, u2_30⟩ := u27
      try dsimp only at h0
      obtain ⟨hso31, rfl⟩ := h0
      have hP : va_P D vwCl ([(o 0, .inr (7, [.ref (x 0), .ref (tq 0), .ref rd, .ref (q 0), .ref (tr 0), .ref (pz 0), .ref (o 1), .ref (o 2), .ref (sz 0)]))] ++ ((dyW k q t g X) ++ ((siW k sz n c_ m_) ++ (dyW k tr t u1_29 u2_30)))) H := hP
      have hD : va_D A ([(o 0, .inr (7, [.ref (x 0), .ref (tq 0), .ref rd, .ref (q 0), .ref (tr 0), .ref (pz 0), .ref (o 1), .ref (o 2), .ref (sz 0)]))] ++ ((dyW k q t g X) ++ ((siW k sz n c_ m_) ++ (dyW k tr t u1_29 u2_30)))) := hD
      exact ret (nI 1) (t, u1_29, u2_30) dX7_wouldExplain_36 (by decide) (Or.inl ⟨hso31, rfl⟩) (hP.sub [0, 1, 2, 3, 4, 5, 6, 7, 8, 9, 10, 11, 15, 16, 17, 18, 19, 20, 21, 22, 23, 24, 25, 12, 13, 14] rfl) (hD.sub [0, 1, 2, 3, 4, 5, 6, 7, 8, 9, 10, 11, 15, 16, 17, 18, 19, 20, 21, 22, 23, 24, 25, 12, 13, 14] (by decide) rfl) hS
    · obtain ⟨u1_32, u2_33⟩ := u27
      try dsimp only at h0
      obtain ⟨hso34, rfl⟩ := h0
      have hP : va_P D vwCl ([(o 0, .inr (7, [.ref (x 0), .ref (tq 0), .ref rd, .ref (q 0), .ref (tr 0), .ref (pz 0), .ref (o 1), .ref (o 2), .ref (sz 0)]))] ++ ((dyW k q t g X) ++ ((siW k sz n c_ m_) ++ (dyW k tr t u1_32 u2_33)))) H := hP
      have hD : va_D A ([(o 0, .inr (7, [.ref (x 0), .ref (tq 0), .ref rd, .ref (q 0), .ref (tr 0), .ref (pz 0), .ref (o 1), .ref (o 2), .ref (sz 0)]))] ++ ((dyW k q t g X) ++ ((siW k sz n c_ m_) ++ (dyW k tr t u1_32 u2_33)))) := hD
      exact ret (nI 0) (t, u1_32, u2_33) dX7_wouldExplain_36 (by decide) (Or.inr ⟨hso34, rfl⟩) (hP.sub [0, 1, 2, 3, 4, 5, 6, 7, 8, 9, 10, 11, 15, 16, 17, 18, 19, 20, 21, 22, 23, 24, 25, 12, 13, 14] rfl) (hD.sub [0, 1, 2, 3, 4, 5, 6, 7, 8, 9, 10, 11, 15, 16, 17, 18, 19, 20, 21, 22, 23, 24, 25, 12, 13, 14] (by decide) rfl) hS

set_option maxHeartbeats 4000000 in
set_option maxRecDepth 100000 in
theorem c_X7_ordered (l : Launch) (D : va_G) (k : ta_C) (o : Nat → Nat) (x : Nat → Nat) (tq : Nat → Nat) (rd : Nat) (q : Nat → Nat) (tr : Nat → Nat) (pz : Nat → Nat) (sz : Nat → Nat) (t : Nat → Nat) (g : Nat → Nat) (X : Nat → Nat → Nat) (tt : Nat → Nat) (gg : Nat → Nat) (XX : Nat → Nat → Nat) (n : Nat) (c_ : Nat → Nat) (m_ : Nat → Nat) (a : Nat) (w : Nat) (hok : tg_ok t g) (hh0 : g 0 < 1000000) (hX : tg_X g X) (hn6 : n ≤ 6) (hm : ∀ j, j < n → m_ j ≤ 60) (hm1 : ∀ j, j < n → 1 ≤ m_ j) (hcs : ∀ j, j < n → c_ j < 36) (wa : a < 4294967296) (ww : w < 4294967296) : ta_Mi (S := (Nat → Nat) × (Nat → Nat) × (Nat → Nat → Nat)) l D k yX7_ordered cX7_ordered 7 .int 6 200 [.ref (o 0), .int (nI a), .int (nI w)] ([(o 0, .inr (7, [.ref (x 0), .ref (tq 0), .ref rd, .ref (q 0), .ref (tr 0), .ref (pz 0), .ref (o 1), .ref (o 2), .ref (sz 0)]))] ++ ((dyW k q t g X) ++ ((dyW k tr tt gg XX) ++ (siW k sz n c_ m_)))) (fun r _ => r = nI (sp_ordered t g n c_ m_ a w)) (fun u => ([(o 0, .inr (7, [.ref (x 0), .ref (tq 0), .ref rd, .ref (q 0), .ref (tr 0), .ref (pz 0), .ref (o 1), .ref (o 2), .ref (sz 0)]))] ++ ((dyW k q t g X) ++ ((dyW k tr u.1 u.2.1 u.2.2) ++ (siW k sz n c_ m_))))) := by
  refine ta_enter_i (by decide) (Nat.le_of_ble_eq_true rfl) ?_
  intro p e s m below meth c A ls Q C ret hP hD hS hl
  have C : ta_At p l D k s m ([.ref (o 0), .int (nI a), .int (nI w)] : List Value).toArray c RX7 cX7_ordered 7 A := C
  have hx := C.1.1
  have hb := C.1.2.1
  have hl : lv_has ls 7 [(0, .ref (o 0)), (1, .int (nI a)), (2, .int (nI w))] := hl
  obtain ⟨H, hH⟩ : ∃ H, H = s.heap := ⟨_, rfl⟩
  obtain ⟨locs, hlocs⟩ : ∃ q : List Loc, q = [] := ⟨_, rfl⟩
  have hP : va_P D vwCl ([(o 0, .inr (7, [.ref (x 0), .ref (tq 0), .ref rd, .ref (q 0), .ref (tr 0), .ref (pz 0), .ref (o 1), .ref (o 2), .ref (sz 0)]))] ++ ((dyW k q t g X) ++ ((dyW k tr tt gg XX) ++ (siW k sz n c_ m_)))) H := by rw [hH]; exact hP
  have hS : va_S A s.heap H locs := by rw [hH, hlocs]; exact hS
  rw [← hlocs]
  suffices hgoal : W p l e ({ frames := 6, cells := 0, slots := 0, locals := 200 }) s m ([.ref (o 0), .int (nI a), .int (nI w)] : List Value).toArray below meth c H locs 0 0 Q (F0 m 0 ls []) by rw [hH] at hgoal; exact hgoal
  clear hH hlocs
  refine lv_iload_n hx hb dX7_ordered_0 rfl (lv_at hl 1 rfl) ?_
  refine ta_callSi (As := [.int (nI a)]) (rest0 := []) (Wr := ([(o 0, .inr (7, [.ref (x 0), .ref (tq 0), .ref rd, .ref (q 0), .ref (tr 0), .ref (pz 0), .ref (o 1), .ref (o 2), .ref (sz 0)]))] ++ ((dyW k q t g X) ++ ((dyW k tr tt gg XX) ++ (siW k sz n c_ m_))))) C hP hD hS (c_X7_isArmy l D k a (by omega)) [] [0, 1, 2, 3, 4, 5, 6, 7, 8, 9, 10, 11, 12, 13, 14, 15, 16, 17, 18, 19, 20, 21, 22, 23, 24, 25] rfl rfl (by decide) (by decide) (by decide) tw_385 tw_383 tw_2 tw_384 ⟨by decide, by decide, rfl⟩ ⟨Nat.le_of_ble_eq_true rfl, Nat.le_of_ble_eq_true rfl⟩ ⟨Nat.zero_le _, Nat.zero_le _⟩ hl.1 rfl (Nat.le_of_ble_eq_true rfl) dX7_ordered_1 (fun r1 u2 H locs h3 hP hD hS => ?_)
  rcases h3 with h0 | h0
  · obtain ⟨hi4, rfl⟩ := h0
    have hP : va_P D vwCl ([(o 0, .inr (7, [.ref (x 0), .ref (tq 0), .ref rd, .ref (q 0), .ref (tr 0), .ref (pz 0), .ref (o 1), .ref (o 2), .ref (sz 0)]))] ++ ((dyW k q t g X) ++ ((dyW k tr tt gg XX) ++ (siW k sz n c_ m_)))) H := hP
    have hD : va_D A ([(o 0, .inr (7, [.ref (x 0), .ref (tq 0), .ref rd, .ref (q 0), .ref (tr 0), .ref (pz 0), .ref (o 1), .ref (o 2), .ref (sz 0)]))] ++ ((dyW k q t g X) ++ ((dyW k tr tt gg XX) ++ (siW k sz n c_ m_)))) := hD
    have ha2 := hi4
    refine lv_if_ne (tgt := 10) hx hb dX7_ordered_4 (by decide) (fun c5 => ?_) (fun c5 => ?_)
    · refine lv_iload_n hx hb dX7_ordered_10 rfl (lv_at hl 2 rfl) ?_
      refine ta_wilt C (a := w) (tgt := 19) (by omega) dX7_ordered_11 (by decide) (fun c6 => ?_) (fun c6 => ?_)
      · refine ta_bipush C 4294967293 dX7_ordered_19 (by decide) ?_
        have e1 : sp_ordered t g n c_ m_ a w = 4294967293 := by
          unfold sp_ordered
          rw [if_pos (by omega), if_neg (by omega)]
        exact ret (nI 4294967293) (tt, gg, XX) dX7_ordered_21 rfl (by rw [e1]) hP hD hS
      · refine lv_iload_n hx hb dX7_ordered_14 rfl (lv_at hl 2 rfl) ?_
        refine ta_iconst C 1 dX7_ordered_15 (by decide) ?_
        refine ta_wle C (a := w) (b := 1) (tgt := 22) (by omega) (by omega) dX7_ordered_16 (by decide) (fun c7 => ?_) (fun c7 => ?_)
        · refine lv_aload_n hx hb dX7_ordered_22 rfl (lv_at hl 0 rfl) ?_
          refine ta_get C hP 0 inlX7 rfl rfl 3 (by decide) tw_27 rfl dX7_ordered_23 ?_
          refine ta_getN C hP 1 inlX0 rfl rfl 13 (by decide) 36 rfl rfl dX7_ordered_26 ?_
          refine lv_iload_n hx hb dX7_ordered_29 rfl (lv_at hl 1 rfl) ?_
          have hsize : g (6 + a) ≤ 8 := (tg_ok_a hok ha2).1
          rcases (show a = 0 ∨ a = 1 by omega) with ha0 | ha0
          · have e6a : g (6 + a) = g 6 := by rw [ha0]
            refine ta_nv (y := 0) ha0 ?_
            refine ta_aald C hP 5 2 rfl rfl (i := 0) (x := q 5) (by omega) rfl dX7_ordered_30 ?_
            refine ta_getN C hP 6 inlX1 rfl rfl 2 (by decide) 7 rfl rfl dX7_ordered_31 ?_
            refine ta_ine C (a := g 6) (tgt := 39) (by omega) dX7_ordered_34 (by decide) (fun c8 => ?_) (fun c8 => ?_)
            · refine ta_iconst C 0 dX7_ordered_39 (by decide) ?_
              refine lv_istore_n (lv' := [(3, .int (nI 0)), (0, .ref (o 0)), (1, .int (nI a)), (2, .int (nI w))]) hx hb dX7_ordered_40 rfl hl (by decide) rfl (fun ls hl => ?_)
              refine ta_iconst C 4294967295 dX7_ordered_41 (by decide) ?_
              refine lv_istore (lv' := [(4, .int (nI 4294967295)), (3, .int (nI 0)), (0, .ref (o 0)), (1, .int (nI a)), (2, .int (nI w))]) hx hb dX7_ordered_42 hl (by decide) rfl (fun ls hl => ?_)
              refine ta_iconst C 0 dX7_ordered_44 (by decide) ?_
              refine lv_istore (lv' := [(5, .int (nI 0)), (4, .int (nI 4294967295)), (3, .int (nI 0)), (0, .ref (o 0)), (1, .int (nI a)), (2, .int (nI w))]) hx hb dX7_ordered_45 hl (by decide) rfl (fun ls hl => ?_)
              have loop_47 : ∀ (N_47 : Nat) (kx : Nat) (cn : Nat) (fo : Nat) (t1 : Nat → Nat) (g1 : Nat → Nat) (X1 : Nat → Nat → Nat), (kx ≤ 5) → (a < 2) → (w < 2) → (0 < g (6 + a)) → (cn = tg_cnt (tg_oP t g a n c_ m_) (10 * kx)) → ((cn = 0 ∧ fo = 4294967295 ∧ tg_lea (tg_oP t g a n c_ m_) 50 0 = tg_lea (tg_oP t g a n c_ m_) (50 - (10 * kx)) (10 * kx)) ∨ (0 < cn ∧ fo = tg_lea (tg_oP t g a n c_ m_) 50 0)) → 5 - kx < N_47 → ∀ (H : Heap) (locs : List Loc) (ls : Array Slot), va_P D vwCl ([(o 0, .inr (7, [.ref (x 0), .ref (tq 0), .ref rd, .ref (q 0), .ref (tr 0), .ref (pz 0), .ref (o 1), .ref (o 2), .ref (sz 0)]))] ++ ((dyW k q t g X) ++ ((dyW k tr t1 g1 X1) ++ (siW k sz n c_ m_)))) H → va_D A ([(o 0, .inr (7, [.ref (x 0), .ref (tq 0), .ref rd, .ref (q 0), .ref (tr 0), .ref (pz 0), .ref (o 1), .ref (o 2), .ref (sz 0)]))] ++ ((dyW k q t g X) ++ ((dyW k tr t1 g1 X1) ++ (siW k sz n c_ m_)))) → va_S A s.heap H locs → lv_has ls 7 [(5, .int (nI kx)), (4, .int (nI fo)), (3, .int (nI cn)), (0, .ref (o 0)), (1, .int (nI a)), (2, .int (nI w))] → W p l e ({ frames := 6, cells := 0, slots := 0, locals := 200 }) s m ([.ref (o 0), .int (nI a), .int (nI w)] : List Value).toArray below meth c H locs 0 0 Q (F0 m 47 ls []) := by
                clear hP hD hS hl
                intro N_47
                induction N_47 with
                | zero =>
                  intro kx cn fo t1 g1 X1 h1 ha3 hw2 hn0 hcn hfo hf_47
                  exact absurd hf_47 (Nat.not_lt_zero _)
                | succ N_47 ih_47 =>
                  intro kx cn fo t1 g1 X1 h1 ha3 hw2 hn0 hcn hfo hf_47 H locs ls hP hD hS hl
                  refine lv_iload hx hb dX7_ordered_47 (lv_at hl 0 rfl) ?_
                  refine ta_iconst C 5 dX7_ordered_49 (by decide) ?_
                  refine ta_cge C (a := kx) (b := 5) (tgt := 108) (by omega) (by omega) dX7_ordered_50 (by decide) (fun c9 => ?_) (fun c9 => ?_)
                  · refine lv_iload_n hx hb dX7_ordered_108 rfl (lv_at hl 5 rfl) ?_
                    refine ta_ine C (a := w) (tgt := 116) (by omega) dX7_ordered_109 (by decide) (fun c10 => ?_) (fun c10 => ?_)
                    · refine lv_iload hx hb dX7_ordered_116 (lv_at hl 1 rfl) ?_
                      have ek : 10 * kx = 50 := by omega
                      rw [ek] at hcn hfo
                      have e1 : sp_ordered t g n c_ m_ a w = fo := by
                        unfold sp_ordered
                        rw [if_pos (by omega), if_pos (by omega), if_neg (by omega)]
                        rw [if_neg (by omega)]
                        rcases hfo with ⟨h7, h8, h9⟩ | ⟨h7, h8⟩
                        · rw [h9, h8]; rfl
                        · exact h8.symm
                      exact ret (nI fo) (t1, g1, X1) dX7_ordered_118 rfl (by rw [e1]) hP hD hS
                    · refine lv_iload_n hx hb dX7_ordered_112 rfl (lv_at hl 2 rfl) ?_
                      refine lv_goto (tgt := 118) hx hb dX7_ordered_113 (by decide) ?_
                      have ek : 10 * kx = 50 := by omega
                      rw [ek] at hcn hfo
                      have e1 : sp_ordered t g n c_ m_ a w = cn := by
                        unfold sp_ordered
                        rw [if_pos (by omega), if_pos (by omega), if_neg (by omega)]
                        rw [if_pos (by omega)]
                        exact hcn.symm
                      exact ret (nI cn) (t1, g1, X1) dX7_ordered_118 rfl (by rw [e1]) hP hD hS
                  · refine ta_iconst C 1 dX7_ordered_53 (by decide) ?_
                    refine lv_istore (lv' := [(6, .int (nI 1)), (5, .int (nI kx)), (4, .int (nI fo)), (3, .int (nI cn)), (0, .ref (o 0)), (1, .int (nI a)), (2, .int (nI w))]) hx hb dX7_ordered_54 hl (by decide) rfl (fun ls hl => ?_)
                    have loop_56 : ∀ (N_56 : Nat) (mi : Nat) (cn : Nat) (fo : Nat) (t1 : Nat → Nat) (g1 : Nat → Nat) (X1 : Nat → Nat → Nat), (1 ≤ mi ∧ mi ≤ 10) → (cn = tg_cnt (tg_oP t g a n c_ m_) (10 * kx + mi)) → ((cn = 0 ∧ fo = 4294967295 ∧ tg_lea (tg_oP t g a n c_ m_) 50 0 = tg_lea (tg_oP t g a n c_ m_) (50 - (10 * kx + mi)) (10 * kx + mi)) ∨ (0 < cn ∧ fo = tg_lea (tg_oP t g a n c_ m_) 50 0)) → 10 - mi < N_56 → ∀ (H : Heap) (locs : List Loc) (ls : Array Slot), va_P D vwCl ([(o 0, .inr (7, [.ref (x 0), .ref (tq 0), .ref rd, .ref (q 0), .ref (tr 0), .ref (pz 0), .ref (o 1), .ref (o 2), .ref (sz 0)]))] ++ ((dyW k q t g X) ++ ((dyW k tr t1 g1 X1) ++ (siW k sz n c_ m_)))) H → va_D A ([(o 0, .inr (7, [.ref (x 0), .ref (tq 0), .ref rd, .ref (q 0), .ref (tr 0), .ref (pz 0), .ref (o 1), .ref (o 2), .ref (sz 0)]))] ++ ((dyW k q t g X) ++ ((dyW k tr t1 g1 X1) ++ (siW k sz n c_ m_)))) → va_S A s.heap H locs → lv_has ls 7 [(6, .int (nI mi)), (5, .int (nI kx)), (4, .int (nI fo)), (3, .int (nI cn)), (0, .ref (o 0)), (1, .int (nI a)), (2, .int (nI w))] → W p l e ({ frames := 6, cells := 0, slots := 0, locals := 200 }) s m ([.ref (o 0), .int (nI a), .int (nI w)] : List Value).toArray below meth c H locs 0 0 Q (F0 m 56 ls []) := by
                      clear hP hD hS hl
                      intro N_56
                      induction N_56 with
                      | zero =>
                        intro mi cn fo t1 g1 X1 h2 hcn2 hfo2 hf_56
                        exact absurd hf_56 (Nat.not_lt_zero _)
                      | succ N_56 ih_56 =>
                        intro mi cn fo t1 g1 X1 h2 hcn2 hfo2 hf_56 H locs ls hP hD hS hl
                        refine lv_iload hx hb dX7_ordered_56 (lv_at hl 0 rfl) ?_
                        refine ta_bipush C 9 dX7_ordered_58 (by decide) ?_
                        refine ta_cgt C (a := mi) (b := 9) (tgt := 102) (by omega) (by omega) dX7_ordered_60 (by decide) (fun c11 => ?_) (fun c11 => ?_)
                        · refine lv_iinc (v := nI (kx + 1)) (lv' := [(5, .int (nI (kx + 1))), (6, .int (nI mi)), (4, .int (nI fo)), (3, .int (nI cn)), (0, .ref (o 0)), (1, .int (nI a)), (2, .int (nI w))]) hx hb dX7_ordered_102 hl (k := 1) rfl (ta_inc1 _) (by decide) rfl (fun ls hl => ?_)
                          refine lv_goto (tgt := 47) hx hb dX7_ordered_105 (by decide) ?_
                          have h0P : ¬ (tg_oP t g a n c_ m_) (10 * (kx + 1)) := fun h => absurd h.1 (by omega)
                          have e9 : 10 * kx + mi = 10 * (kx + 1) := by omega
                          have hcn3 : cn = tg_cnt (tg_oP t g a n c_ m_) (10 * (kx + 1)) := by rw [hcn2, e9]
                          have hfo3 : (cn = 0 ∧ fo = 4294967295 ∧ tg_lea (tg_oP t g a n c_ m_) 50 0 = tg_lea (tg_oP t g a n c_ m_) (50 - (10 * (kx + 1))) (10 * (kx + 1))) ∨ (0 < cn ∧ fo = tg_lea (tg_oP t g a n c_ m_) 50 0) := by rw [← e9]; exact hfo2
                          exact ih_47 (kx + 1) cn fo t1 g1 X1 (by omega) (by omega) (by omega) (by omega) hcn3 hfo3 (by omega) _ _ _ hP hD hS (lv_sub hl [0, 2, 3, 4, 5, 6] rfl)
                        · refine lv_aload_n hx hb dX7_ordered_63 rfl (lv_at hl 4 rfl) ?_
                          refine lv_iload_n hx hb dX7_ordered_64 rfl (lv_at hl 5 rfl) ?_
                          refine lv_iload hx hb dX7_ordered_65 (lv_at hl 1 rfl) ?_
                          refine lv_iload hx hb dX7_ordered_67 (lv_at hl 0 rfl) ?_
                          refine ta_callVi (As := [.int (nI a), .int (nI kx), .int (nI mi)]) (rest0 := []) (Wr := []) C hP hD hS (c_X7_wouldExplain l D k o x tq rd q tr pz sz t g X t1 g1 X1 n c_ m_ a kx mi hok hh0 hX hn6 hm hm1 hcs (by omega) (by omega) (by omega)) 0 rfl rfl rfl [0, 1, 2, 3, 4, 5, 6, 7, 8, 9, 10, 11, 12, 13, 14, 15, 16, 17, 18, 19, 20, 21, 22, 23, 24, 25] [] rfl rfl (by decide) (by decide) (by decide) tw_645 tw_642 tw_2 tw_643 tw_644 ⟨by decide, by decide, rfl⟩ ⟨Nat.le_of_ble_eq_true rfl, Nat.le_of_ble_eq_true rfl⟩ ⟨Nat.zero_le _, Nat.zero_le _⟩ hl.1 rfl (Nat.le_of_ble_eq_true rfl) dX7_ordered_69 (fun r12 u13 H locs h14 hP hD hS => ?_)
                          rcases h14 with h0 | h0
                          · obtain ⟨ut_15, ug_16, uX_17⟩ := u13
                            try dsimp only at h0
                            obtain ⟨hso18, rfl⟩ := h0
                            have hP : va_P D vwCl ([(o 0, .inr (7, [.ref (x 0), .ref (tq 0), .ref rd, .ref (q 0), .ref (tr 0), .ref (pz 0), .ref (o 1), .ref (o 2), .ref (sz 0)]))] ++ ((dyW k q t g X) ++ ((dyW k tr ut_15 ug_16 uX_17) ++ (siW k sz n c_ m_)))) H := hP
                            have hD : va_D A ([(o 0, .inr (7, [.ref (x 0), .ref (tq 0), .ref rd, .ref (q 0), .ref (tr 0), .ref (pz 0), .ref (o 1), .ref (o 2), .ref (sz 0)]))] ++ ((dyW k q t g X) ++ ((dyW k tr ut_15 ug_16 uX_17) ++ (siW k sz n c_ m_)))) := hD
                            have hcb := tg_cnt_b (tg_oP t g a n c_ m_) (10 * kx + mi)
                            refine lv_if_eq (tgt := 96) hx hb dX7_ordered_72 (by decide) (fun c19 => ?_) (fun c19 => ?_)
                            · exact absurd c19 (by decide)
                            · refine lv_iload_n hx hb dX7_ordered_75 rfl (lv_at hl 3 rfl) ?_
                              refine ta_ine C (a := cn) (tgt := 89) (by omega) dX7_ordered_76 (by decide) (fun c20 => ?_) (fun c20 => ?_)
                              · refine lv_iload hx hb dX7_ordered_89 (lv_at hl 2 rfl) ?_
                                refine lv_istore (lv' := [(4, .int (nI fo)), (6, .int (nI mi)), (5, .int (nI kx)), (3, .int (nI cn)), (0, .ref (o 0)), (1, .int (nI a)), (2, .int (nI w))]) hx hb dX7_ordered_91 hl (by decide) rfl (fun ls hl => ?_)
                                refine lv_iinc (v := nI (cn + 1)) (lv' := [(3, .int (nI (cn + 1))), (4, .int (nI fo)), (6, .int (nI mi)), (5, .int (nI kx)), (0, .ref (o 0)), (1, .int (nI a)), (2, .int (nI w))]) hx hb dX7_ordered_93 hl (k := 3) rfl (ta_inc1 _) (by decide) rfl (fun ls hl => ?_)
                                refine lv_iinc (v := nI (mi + 1)) (lv' := [(6, .int (nI (mi + 1))), (3, .int (nI (cn + 1))), (4, .int (nI fo)), (5, .int (nI kx)), (0, .ref (o 0)), (1, .int (nI a)), (2, .int (nI w))]) hx hb dX7_ordered_96 hl (k := 2) rfl (ta_inc1 _) (by decide) rfl (fun ls hl => ?_)
                                refine lv_goto (tgt := 56) hx hb dX7_ordered_99 (by decide) ?_
                                have hop : (tg_oP t g a n c_ m_) (10 * kx + mi) := ⟨by omega, hso18⟩
                                have hcn4 : cn + 1 = tg_cnt (tg_oP t g a n c_ m_) (10 * kx + (mi + 1)) := by rw [show 10 * kx + (mi + 1) = 10 * kx + mi + 1 by omega, tg_cnt_y hop, hcn2]
                                have hfo4 : (cn + 1 = 0 ∧ fo = 4294967295 ∧ tg_lea (tg_oP t g a n c_ m_) 50 0 = tg_lea (tg_oP t g a n c_ m_) (50 - (10 * kx + (mi + 1))) (10 * kx + (mi + 1))) ∨ (0 < cn + 1 ∧ fo = tg_lea (tg_oP t g a n c_ m_) 50 0) := by
                                  refine Or.inr ⟨by omega, ?_⟩
                                  rcases hfo2 with ⟨h7, h8, h9⟩ | ⟨h7, h8⟩
                                  · exfalso; omega
                                  · exact h8
                                exact ih_56 (mi + 1) (cn + 1) fo ut_15 ug_16 uX_17 (by omega) hcn4 hfo4 (by omega) _ _ _ hP hD hS (lv_sub hl [0, 3, 2, 1, 4, 5, 6] rfl)
                              · refine lv_iload hx hb dX7_ordered_79 (lv_at hl 1 rfl) ?_
                                refine lv_iload hx hb dX7_ordered_81 (lv_at hl 0 rfl) ?_
                                refine ta_callSi (As := [.int (nI kx), .int (nI mi)]) (rest0 := []) (Wr := ([(o 0, .inr (7, [.ref (x 0), .ref (tq 0), .ref rd, .ref (q 0), .ref (tr 0), .ref (pz 0), .ref (o 1), .ref (o 2), .ref (sz 0)]))] ++ ((dyW k q t g X) ++ ((dyW k tr ut_15 ug_16 uX_17) ++ (siW k sz n c_ m_))))) C hP hD hS (c_X7_codeOf l D k kx mi) [] [0, 1, 2, 3, 4, 5, 6, 7, 8, 9, 10, 11, 12, 13, 14, 15, 16, 17, 18, 19, 20, 21, 22, 23, 24, 25] rfl rfl (by decide) (by decide) (by decide) tw_584 tw_582 tw_2 tw_583 ⟨by decide, by decide, rfl⟩ ⟨Nat.le_of_ble_eq_true rfl, Nat.le_of_ble_eq_true rfl⟩ ⟨Nat.zero_le _, Nat.zero_le _⟩ hl.1 rfl (Nat.le_of_ble_eq_true rfl) dX7_ordered_83 (fun r21 u22 H locs h23 hP hD hS => ?_)
                                obtain rfl := h23
                                have hP : va_P D vwCl ([(o 0, .inr (7, [.ref (x 0), .ref (tq 0), .ref rd, .ref (q 0), .ref (tr 0), .ref (pz 0), .ref (o 1), .ref (o 2), .ref (sz 0)]))] ++ ((dyW k q t g X) ++ ((dyW k tr ut_15 ug_16 uX_17) ++ (siW k sz n c_ m_)))) H := hP
                                have hD : va_D A ([(o 0, .inr (7, [.ref (x 0), .ref (tq 0), .ref rd, .ref (q 0), .ref (tr 0), .ref (pz 0), .ref (o 1), .ref (o 2), .ref (sz 0)]))] ++ ((dyW k q t g X) ++ ((dyW k tr ut_15 ug_16 uX_17) ++ (siW k sz n c_ m_)))) := hD
                                refine lv_goto (tgt := 91) hx hb dX7_ordered_86 (by decide) ?_
                                refine lv_istore (lv' := [(4, .int (nI (10 * kx + mi))), (6, .int (nI mi)), (5, .int (nI kx)), (3, .int (nI cn)), (0, .ref (o 0)), (1, .int (nI a)), (2, .int (nI w))]) hx hb dX7_ordered_91 hl (by decide) rfl (fun ls hl => ?_)
                                refine lv_iinc (v := nI (cn + 1)) (lv' := [(3, .int (nI (cn + 1))), (4, .int (nI (10 * kx + mi))), (6, .int (nI mi)), (5, .int (nI kx)), (0, .ref (o 0)), (1, .int (nI a)), (2, .int (nI w))]) hx hb dX7_ordered_93 hl (k := 3) rfl (ta_inc1 _) (by decide) rfl (fun ls hl => ?_)
                                refine lv_iinc (v := nI (mi + 1)) (lv' := [(6, .int (nI (mi + 1))), (3, .int (nI (cn + 1))), (4, .int (nI (10 * kx + mi))), (5, .int (nI kx)), (0, .ref (o 0)), (1, .int (nI a)), (2, .int (nI w))]) hx hb dX7_ordered_96 hl (k := 2) rfl (ta_inc1 _) (by decide) rfl (fun ls hl => ?_)
                                refine lv_goto (tgt := 56) hx hb dX7_ordered_99 (by decide) ?_
                                have hop : (tg_oP t g a n c_ m_) (10 * kx + mi) := ⟨by omega, hso18⟩
                                have hcn4 : cn + 1 = tg_cnt (tg_oP t g a n c_ m_) (10 * kx + (mi + 1)) := by rw [show 10 * kx + (mi + 1) = 10 * kx + mi + 1 by omega, tg_cnt_y hop, hcn2]
                                have hfo4 : (cn + 1 = 0 ∧ 10 * kx + mi = 4294967295 ∧ tg_lea (tg_oP t g a n c_ m_) 50 0 = tg_lea (tg_oP t g a n c_ m_) (50 - (10 * kx + (mi + 1))) (10 * kx + (mi + 1))) ∨ (0 < cn + 1 ∧ 10 * kx + mi = tg_lea (tg_oP t g a n c_ m_) 50 0) := by
                                  refine Or.inr ⟨by omega, ?_⟩
                                  rcases hfo2 with ⟨h7, h8, h9⟩ | ⟨h7, h8⟩
                                  · rw [h9, show 50 - (10 * kx + mi) = (50 - (10 * kx + mi + 1)) + 1 by omega, tg_lea_y hop]
                                  · exfalso; omega
                                exact ih_56 (mi + 1) (cn + 1) (10 * kx + mi) ut_15 ug_16 uX_17 (by omega) hcn4 hfo4 (by omega) _ _ _ hP hD hS (lv_sub hl [0, 3, 2, 1, 4, 5, 6] rfl)
                          · obtain ⟨ut_24, ug_25, uX_26⟩ := u13
                            try dsimp only at h0
                            obtain ⟨hso27, rfl⟩ := h0
                            have hP : va_P D vwCl ([(o 0, .inr (7, [.ref (x 0), .ref (tq 0), .ref rd, .ref (q 0), .ref (tr 0), .ref (pz 0), .ref (o 1), .ref (o 2), .ref (sz 0)]))] ++ ((dyW k q t g X) ++ ((dyW k tr ut_24 ug_25 uX_26) ++ (siW k sz n c_ m_)))) H := hP
                            have hD : va_D A ([(o 0, .inr (7, [.ref (x 0), .ref (tq 0), .ref rd, .ref (q 0), .ref (tr 0), .ref (pz 0), .ref (o 1), .ref (o 2), .ref (sz 0)]))] ++ ((dyW k q t g X) ++ ((dyW k tr ut_24 ug_25 uX_26) ++ (siW k sz n c_ m_)))) := hD
                            have hcb := tg_cnt_b (tg_oP t g a n c_ m_) (10 * kx + mi)
                            refine lv_if_eq (tgt := 96) hx hb dX7_ordered_72 (by decide) (fun c28 => ?_) (fun c28 => ?_)
                            · refine lv_iinc (v := nI (mi + 1)) (lv' := [(6, .int (nI (mi + 1))), (5, .int (nI kx)), (4, .int (nI fo)), (3, .int (nI cn)), (0, .ref (o 0)), (1, .int (nI a)), (2, .int (nI w))]) hx hb dX7_ordered_96 hl (k := 0) rfl (ta_inc1 _) (by decide) rfl (fun ls hl => ?_)
                              refine lv_goto (tgt := 56) hx hb dX7_ordered_99 (by decide) ?_
                              have hop : ¬ (tg_oP t g a n c_ m_) (10 * kx + mi) := fun h9 => absurd h9.2 hso27
                              have hcn4 : cn = tg_cnt (tg_oP t g a n c_ m_) (10 * kx + (mi + 1)) := by rw [show 10 * kx + (mi + 1) = 10 * kx + mi + 1 by omega, tg_cnt_n hop]; exact hcn2
                              have hfo4 : (cn = 0 ∧ fo = 4294967295 ∧ tg_lea (tg_oP t g a n c_ m_) 50 0 = tg_lea (tg_oP t g a n c_ m_) (50 - (10 * kx + (mi + 1))) (10 * kx + (mi + 1))) ∨ (0 < cn ∧ fo = tg_lea (tg_oP t g a n c_ m_) 50 0) := by
                                rcases hfo2 with ⟨h7, h8, h9⟩ | h7
                                · exact Or.inl ⟨h7, h8, by rw [h9, show 50 - (10 * kx + mi) = (50 - (10 * kx + (mi + 1))) + 1 by omega, tg_lea_n hop]; rfl⟩
                                · exact Or.inr h7
                              exact ih_56 (mi + 1) cn fo ut_24 ug_25 uX_26 (by omega) hcn4 hfo4 (by omega) _ _ _ hP hD hS (lv_sub hl [0, 1, 2, 3, 4, 5, 6] rfl)
                            · exact absurd c28 (by decide)
                    have h0P : ¬ (tg_oP t g a n c_ m_) (10 * kx) := fun h => absurd h.1 (by omega)
                    have hcn2 : cn = tg_cnt (tg_oP t g a n c_ m_) (10 * kx + 1) := by rw [tg_cnt_n h0P]; exact hcn
                    have hfo2 : (cn = 0 ∧ fo = 4294967295 ∧ tg_lea (tg_oP t g a n c_ m_) 50 0 = tg_lea (tg_oP t g a n c_ m_) (50 - (10 * kx + 1)) (10 * kx + 1)) ∨ (0 < cn ∧ fo = tg_lea (tg_oP t g a n c_ m_) 50 0) := by
                      rcases hfo with ⟨h7, h8, h9⟩ | h7
                      · exact Or.inl ⟨h7, h8, by rw [h9, show 50 - 10 * kx = (50 - (10 * kx + 1)) + 1 by omega, tg_lea_n h0P]⟩
                      · exact Or.inr h7
                    exact loop_56 ((10 - 1) + 1) 1 cn fo t1 g1 X1 (by omega) hcn2 hfo2 (Nat.lt_succ_self _) _ _ _ hP hD hS (lv_sub hl [0, 1, 2, 3, 4, 5, 6] rfl)
              exact loop_47 ((5 - 0) + 1) 0 0 4294967295 tt gg XX (by omega) (by omega) (by omega) (by omega) rfl (Or.inl ⟨rfl, rfl, rfl⟩) (Nat.lt_succ_self _) _ _ _ hP hD hS (lv_sub hl [0, 1, 2, 3, 4, 5] rfl)
            · refine ta_iconst C 4294967295 dX7_ordered_37 (by decide) ?_
              have e1 : sp_ordered t g n c_ m_ a w = 4294967295 := by
                unfold sp_ordered
                rw [if_pos (by omega), if_pos (by omega), if_pos (by omega)]
              exact ret (nI 4294967295) (tt, gg, XX) dX7_ordered_38 rfl (by rw [e1]) hP hD hS
          · have e6a : g (6 + a) = g 7 := by rw [ha0]
            refine ta_nv (y := 1) ha0 ?_
            refine ta_aald C hP 5 2 rfl rfl (i := 1) (x := q 8) (by omega) rfl dX7_ordered_30 ?_
            refine ta_getN C hP 9 inlX1 rfl rfl 2 (by decide) 7 rfl rfl dX7_ordered_31 ?_
            refine ta_ine C (a := g 7) (tgt := 39) (by omega) dX7_ordered_34 (by decide) (fun c29 => ?_) (fun c29 => ?_)
            · refine ta_iconst C 0 dX7_ordered_39 (by decide) ?_
              refine lv_istore_n (lv' := [(3, .int (nI 0)), (0, .ref (o 0)), (1, .int (nI a)), (2, .int (nI w))]) hx hb dX7_ordered_40 rfl hl (by decide) rfl (fun ls hl => ?_)
              refine ta_iconst C 4294967295 dX7_ordered_41 (by decide) ?_
              refine lv_istore (lv' := [(4, .int (nI 4294967295)), (3, .int (nI 0)), (0, .ref (o 0)), (1, .int (nI a)), (2, .int (nI w))]) hx hb dX7_ordered_42 hl (by decide) rfl (fun ls hl => ?_)
              refine ta_iconst C 0 dX7_ordered_44 (by decide) ?_
              refine lv_istore (lv' := [(5, .int (nI 0)), (4, .int (nI 4294967295)), (3, .int (nI 0)), (0, .ref (o 0)), (1, .int (nI a)), (2, .int (nI w))]) hx hb dX7_ordered_45 hl (by decide) rfl (fun ls hl => ?_)
              have loop_47 : ∀ (N_47 : Nat) (kx : Nat) (cn : Nat) (fo : Nat) (t1 : Nat → Nat) (g1 : Nat → Nat) (X1 : Nat → Nat → Nat), (kx ≤ 5) → (a < 2) → (w < 2) → (0 < g (6 + a)) → (cn = tg_cnt (tg_oP t g a n c_ m_) (10 * kx)) → ((cn = 0 ∧ fo = 4294967295 ∧ tg_lea (tg_oP t g a n c_ m_) 50 0 = tg_lea (tg_oP t g a n c_ m_) (50 - (10 * kx)) (10 * kx)) ∨ (0 < cn ∧ fo = tg_lea (tg_oP t g a n c_ m_) 50 0)) → 5 - kx < N_47 → ∀ (H : Heap) (locs : List Loc) (ls : Array Slot), va_P D vwCl ([(o 0, .inr (7, [.ref (x 0), .ref (tq 0), .ref rd, .ref (q 0), .ref (tr 0), .ref (pz 0), .ref (o 1), .ref (o 2), .ref (sz 0)]))] ++ ((dyW k q t g X) ++ ((dyW k tr t1 g1 X1) ++ (siW k sz n c_ m_)))) H → va_D A ([(o 0, .inr (7, [.ref (x 0), .ref (tq 0), .ref rd, .ref (q 0), .ref (tr 0), .ref (pz 0), .ref (o 1), .ref (o 2), .ref (sz 0)]))] ++ ((dyW k q t g X) ++ ((dyW k tr t1 g1 X1) ++ (siW k sz n c_ m_)))) → va_S A s.heap H locs → lv_has ls 7 [(5, .int (nI kx)), (4, .int (nI fo)), (3, .int (nI cn)), (0, .ref (o 0)), (1, .int (nI a)), (2, .int (nI w))] → W p l e ({ frames := 6, cells := 0, slots := 0, locals := 200 }) s m ([.ref (o 0), .int (nI a), .int (nI w)] : List Value).toArray below meth c H locs 0 0 Q (F0 m 47 ls []) := by
                clear hP hD hS hl
                intro N_47
                induction N_47 with
                | zero =>
                  intro kx cn fo t1 g1 X1 h1 ha3 hw2 hn0 hcn hfo hf_47
                  exact absurd hf_47 (Nat.not_lt_zero _)
                | succ N_47 ih_47 =>
                  intro kx cn fo t1 g1 X1 h1 ha3 hw2 hn0 hcn hfo hf_47 H locs ls hP hD hS hl
                  refine lv_iload hx hb dX7_ordered_47 (lv_at hl 0 rfl) ?_
                  refine ta_iconst C 5 dX7_ordered_49 (by decide) ?_
                  refine ta_cge C (a := kx) (b := 5) (tgt := 108) (by omega) (by omega) dX7_ordered_50 (by decide) (fun c30 => ?_) (fun c30 => ?_)
                  · refine lv_iload_n hx hb dX7_ordered_108 rfl (lv_at hl 5 rfl) ?_
                    refine ta_ine C (a := w) (tgt := 116) (by omega) dX7_ordered_109 (by decide) (fun c31 => ?_) (fun c31 => ?_)
                    · refine lv_iload hx hb dX7_ordered_116 (lv_at hl 1 rfl) ?_
                      have ek : 10 * kx = 50 := by omega
                      rw [ek] at hcn hfo
                      have e1 : sp_ordered t g n c_ m_ a w = fo := by
                        unfold sp_ordered
                        rw [if_pos (by omega), if_pos (by omega), if_neg (by omega)]
                        rw [if_neg (by omega)]
                        rcases hfo with ⟨h7, h8, h9⟩ | ⟨h7, h8⟩
                        · rw [h9, h8]; rfl
                        · exact h8.symm
                      exact ret (nI fo) (t1, g1, X1) dX7_ordered_118 rfl (by rw [e1]) hP hD hS
                    · refine lv_iload_n hx hb dX7_ordered_112 rfl (lv_at hl 2 rfl) ?_
                      refine lv_goto (tgt := 118) hx hb dX7_ordered_113 (by decide) ?_
                      have ek : 10 * kx = 50 := by omega
                      rw [ek] at hcn hfo
                      have e1 : sp_ordered t g n c_ m_ a w = cn := by
                        unfold sp_ordered
                        rw [if_pos (by omega), if_pos (by omega), if_neg (by omega)]
                        rw [if_pos (by omega)]
                        exact hcn.symm
                      exact ret (nI cn) (t1, g1, X1) dX7_ordered_118 rfl (by rw [e1]) hP hD hS
                  · refine ta_iconst C 1 dX7_ordered_53 (by decide) ?_
                    refine lv_istore (lv' := [(6, .int (nI 1)), (5, .int (nI kx)), (4, .int (nI fo)), (3, .int (nI cn)), (0, .ref (o 0)), (1, .int (nI a)), (2, .int (nI w))]) hx hb dX7_ordered_54 hl (by decide) rfl (fun ls hl => ?_)
                    have loop_56 : ∀ (N_56 : Nat) (mi : Nat) (cn : Nat) (fo : Nat) (t1 : Nat → Nat) (g1 : Nat → Nat) (X1 : Nat → Nat → Nat), (1 ≤ mi ∧ mi ≤ 10) → (cn = tg_cnt (tg_oP t g a n c_ m_) (10 * kx + mi)) → ((cn = 0 ∧ fo = 4294967295 ∧ tg_lea (tg_oP t g a n c_ m_) 50 0 = tg_lea (tg_oP t g a n c_ m_) (50 - (10 * kx + mi)) (10 * kx + mi)) ∨ (0 < cn ∧ fo = tg_lea (tg_oP t g a n c_ m_) 50 0)) → 10 - mi < N_56 → ∀ (H : Heap) (locs : List Loc) (ls : Array Slot), va_P D vwCl ([(o 0, .inr (7, [.ref (x 0), .ref (tq 0), .ref rd, .ref (q 0), .ref (tr 0), .ref (pz 0), .ref (o 1), .ref (o 2), .ref (sz 0)]))] ++ ((dyW k q t g X) ++ ((dyW k tr t1 g1 X1) ++ (siW k sz n c_ m_)))) H → va_D A ([(o 0, .inr (7, [.ref (x 0), .ref (tq 0), .ref rd, .ref (q 0), .ref (tr 0), .ref (pz 0), .ref (o 1), .ref (o 2), .ref (sz 0)]))] ++ ((dyW k q t g X) ++ ((dyW k tr t1 g1 X1) ++ (siW k sz n c_ m_)))) → va_S A s.heap H locs → lv_has ls 7 [(6, .int (nI mi)), (5, .int (nI kx)), (4, .int (nI fo)), (3, .int (nI cn)), (0, .ref (o 0)), (1, .int (nI a)), (2, .int (nI w))] → W p l e ({ frames := 6, cells := 0, slots := 0, locals := 200 }) s m ([.ref (o 0), .int (nI a), .int (nI w)] : List Value).toArray below meth c H locs 0 0 Q (F0 m 56 ls []) := by
                      clear hP hD hS hl
                      intro N_56
                      induction N_56 with
                      | zero =>
                        intro mi cn fo t1 g1 X1 h2 hcn2 hfo2 hf_56
                        exact absurd hf_56 (Nat.not_lt_zero _)
                      | succ N_56 ih_56 =>
                        intro mi cn fo t1 g1 X1 h2 hcn2 hfo2 hf_56 H locs ls hP hD hS hl
                        refine lv_iload hx hb dX7_ordered_56 (lv_at hl 0 rfl) ?_
                        refine ta_bipush C 9 dX7_ordered_58 (by decide) ?_
                        refine ta_cgt C (a := mi) (b := 9) (tgt := 102) (by omega) (by omega) dX7_ordered_60 (by decide) (fun c32 => ?_) (fun c32 => ?_)
                        · refine lv_iinc (v := nI (kx + 1)) (lv' := [(5, .int (nI (kx + 1))), (6, .int (nI mi)), (4, .int (nI fo)), (3, .int (nI cn)), (0, .ref (o 0)), (1, .int (nI a)), (2, .int (nI w))]) hx hb dX7_ordered_102 hl (k := 1) rfl (ta_inc1 _) (by decide) rfl (fun ls hl => ?_)
                          refine lv_goto (tgt := 47) hx hb dX7_ordered_105 (by decide) ?_
                          have h0P : ¬ (tg_oP t g a n c_ m_) (10 * (kx + 1)) := fun h => absurd h.1 (by omega)
                          have e9 : 10 * kx + mi = 10 * (kx + 1) := by omega
                          have hcn3 : cn = tg_cnt (tg_oP t g a n c_ m_) (10 * (kx + 1)) := by rw [hcn2, e9]
                          have hfo3 : (cn = 0 ∧ fo = 4294967295 ∧ tg_lea (tg_oP t g a n c_ m_) 50 0 = tg_lea (tg_oP t g a n c_ m_) (50 - (10 * (kx + 1))) (10 * (kx + 1))) ∨ (0 < cn ∧ fo = tg_lea (tg_oP t g a n c_ m_) 50 0) := by rw [← e9]; exact hfo2
                          exact ih_47 (kx + 1) cn fo t1 g1 X1 (by omega) (by omega) (by omega) (by omega) hcn3 hfo3 (by omega) _ _ _ hP hD hS (lv_sub hl [0, 2, 3, 4, 5, 6] rfl)
                        · refine lv_aload_n hx hb dX7_ordered_63 rfl (lv_at hl 4 rfl) ?_
                          refine lv_iload_n hx hb dX7_ordered_64 rfl (lv_at hl 5 rfl) ?_
                          refine lv_iload hx hb dX7_ordered_65 (lv_at hl 1 rfl) ?_
                          refine lv_iload hx hb dX7_ordered_67 (lv_at hl 0 rfl) ?_
                          refine ta_callVi (As := [.int (nI a), .int (nI kx), .int (nI mi)]) (rest0 := []) (Wr := []) C hP hD hS (c_X7_wouldExplain l D k o x tq rd q tr pz sz t g X t1 g1 X1 n c_ m_ a kx mi hok hh0 hX hn6 hm hm1 hcs (by omega) (by omega) (by omega)) 0 rfl rfl rfl [0, 1, 2, 3, 4, 5, 6, 7, 8, 9, 10, 11, 12, 13, 14, 15, 16, 17, 18, 19, 20, 21, 22, 23, 24, 25] [] rfl rfl (by decide) (by decide) (by decide) tw_645 tw_642 tw_2 tw_643 tw_644 ⟨by decide, by decide, rfl⟩ ⟨Nat.le_of_ble_eq_true rfl, Nat.le_of_ble_eq_true rfl⟩ ⟨Nat.zero_le _, Nat.zero_le _⟩ hl.1 rfl (Nat.le_of_ble_eq_true rfl) dX7_ordered_69 (fun r33 u34 H locs h35 hP hD hS => ?_)
                          rcases h35 with h0 | h0
                          · obtain ⟨ut_36, ug_37, uX_38⟩ := u34
                            try dsimp only at h0
                            obtain ⟨hso39, rfl⟩ := h0
                            have hP : va_P D vwCl ([(o 0, .inr (7, [.ref (x 0), .ref (tq 0), .ref rd, .ref (q 0), .ref (tr 0), .ref (pz 0), .ref (o 1), .ref (o 2), .ref (sz 0)]))] ++ ((dyW k q t g X) ++ ((dyW k tr ut_36 ug_37 uX_38) ++ (siW k sz n c_ m_)))) H := hP
                            have hD : va_D A ([(o 0, .inr (7, [.ref (x 0), .ref (tq 0), .ref rd, .ref (q 0), .ref (tr 0), .ref (pz 0), .ref (o 1), .ref (o 2), .ref (sz 0)]))] ++ ((dyW k q t g X) ++ ((dyW k tr ut_36 ug_37 uX_38) ++ (siW k sz n c_ m_)))) := hD
                            have hcb := tg_cnt_b (tg_oP t g a n c_ m_) (10 * kx + mi)
                            refine lv_if_eq (tgt := 96) hx hb dX7_ordered_72 (by decide) (fun c40 => ?_) (fun c40 => ?_)
                            · exact absurd c40 (by decide)
                            · refine lv_iload_n hx hb dX7_ordered_75 rfl (lv_at hl 3 rfl) ?_
                              refine ta_ine C (a := cn) (tgt := 89) (by omega) dX7_ordered_76 (by decide) (fun c41 => ?_) (fun c41 => ?_)
                              · refine lv_iload hx hb dX7_ordered_89 (lv_at hl 2 rfl) ?_
                                refine lv_istore (lv' := [(4, .int (nI fo)), (6, .int (nI mi)), (5, .int (nI kx)), (3, .int (nI cn)), (0, .ref (o 0)), (1, .int (nI a)), (2, .int (nI w))]) hx hb dX7_ordered_91 hl (by decide) rfl (fun ls hl => ?_)
                                refine lv_iinc (v := nI (cn + 1)) (lv' := [(3, .int (nI (cn + 1))), (4, .int (nI fo)), (6, .int (nI mi)), (5, .int (nI kx)), (0, .ref (o 0)), (1, .int (nI a)), (2, .int (nI w))]) hx hb dX7_ordered_93 hl (k := 3) rfl (ta_inc1 _) (by decide) rfl (fun ls hl => ?_)
                                refine lv_iinc (v := nI (mi + 1)) (lv' := [(6, .int (nI (mi + 1))), (3, .int (nI (cn + 1))), (4, .int (nI fo)), (5, .int (nI kx)), (0, .ref (o 0)), (1, .int (nI a)), (2, .int (nI w))]) hx hb dX7_ordered_96 hl (k := 2) rfl (ta_inc1 _) (by decide) rfl (fun ls hl => ?_)
                                refine lv_goto (tgt := 56) hx hb dX7_ordered_99 (by decide) ?_
                                have hop : (tg_oP t g a n c_ m_) (10 * kx + mi) := ⟨by omega, hso39⟩
                                have hcn4 : cn + 1 = tg_cnt (tg_oP t g a n c_ m_) (10 * kx + (mi + 1)) := by rw [show 10 * kx + (mi + 1) = 10 * kx + mi + 1 by omega, tg_cnt_y hop, hcn2]
                                have hfo4 : (cn + 1 = 0 ∧ fo = 4294967295 ∧ tg_lea (tg_oP t g a n c_ m_) 50 0 = tg_lea (tg_oP t g a n c_ m_) (50 - (10 * kx + (mi + 1))) (10 * kx + (mi + 1))) ∨ (0 < cn + 1 ∧ fo = tg_lea (tg_oP t g a n c_ m_) 50 0) := by
                                  refine Or.inr ⟨by omega, ?_⟩
                                  rcases hfo2 with ⟨h7, h8, h9⟩ | ⟨h7, h8⟩
                                  · exfalso; omega
                                  · exact h8
                                exact ih_56 (mi + 1) (cn + 1) fo ut_36 ug_37 uX_38 (by omega) hcn4 hfo4 (by omega) _ _ _ hP hD hS (lv_sub hl [0, 3, 2, 1, 4, 5, 6] rfl)
                              · refine lv_iload hx hb dX7_ordered_79 (lv_at hl 1 rfl) ?_
                                refine lv_iload hx hb dX7_ordered_81 (lv_at hl 0 rfl) ?_
                                refine ta_callSi (As := [.int (nI kx), .int (nI mi)]) (rest0 := []) (Wr := ([(o 0, .inr (7, [.ref (x 0), .ref (tq 0), .ref rd, .ref (q 0), .ref (tr 0), .ref (pz 0), .ref (o 1), .ref (o 2), .ref (sz 0)]))] ++ ((dyW k q t g X) ++ ((dyW k tr ut_36 ug_37 uX_38) ++ (siW k sz n c_ m_))))) C hP hD hS (c_X7_codeOf l D k kx mi) [] [0, 1, 2, 3, 4, 5, 6, 7, 8, 9, 10, 11, 12, 13, 14, 15, 16, 17, 18, 19, 20, 21, 22, 23, 24, 25] rfl rfl (by decide) (by decide) (by decide) tw_584 tw_582 tw_2 tw_583 ⟨by decide, by decide, rfl⟩ ⟨Nat.le_of_ble_eq_true rfl, Nat.le_of_ble_eq_true rfl⟩ ⟨Nat.zero_le _, Nat.zero_le _⟩ hl.1 rfl (Nat.le_of_ble_eq_true rfl) dX7_ordered_83 (fun r42 u43 H locs h44 hP hD hS => ?_)
                                obtain rfl := h44
                                have hP : va_P D vwCl ([(o 0, .inr (7, [.ref (x 0), .ref (tq 0), .ref rd, .ref (q 0), .ref (tr 0), .ref (pz 0), .ref (o 1), .ref (o 2), .ref (sz 0)]))] ++ ((dyW k q t g X) ++ ((dyW k tr ut_36 ug_37 uX_38) ++ (siW k sz n c_ m_)))) H := hP
                                have hD : va_D A ([(o 0, .inr (7, [.ref (x 0), .ref (tq 0), .ref rd, .ref (q 0), .ref (tr 0), .ref (pz 0), .ref (o 1), .ref (o 2), .ref (sz 0)]))] ++ ((dyW k q t g X) ++ ((dyW k tr ut_36 ug_37 uX_38) ++ (siW k sz n c_ m_)))) := hD
                                refine lv_goto (tgt := 91) hx hb dX7_ordered_86 (by decide) ?_
                                refine lv_istore (lv' := [(4, .int (nI (10 * kx + mi))), (6, .int (nI mi)), (5, .int (nI kx)), (3, .int (nI cn)), (0, .ref (o 0)), (1, .int (nI a)), (2, .int (nI w))]) hx hb dX7_ordered_91 hl (by decide) rfl (fun ls hl => ?_)
                                refine lv_iinc (v := nI (cn + 1)) (lv' := [(3, .int (nI (cn + 1))), (4, .int (nI (10 * kx + mi))), (6, .int (nI mi)), (5, .int (nI kx)), (0, .ref (o 0)), (1, .int (nI a)), (2, .int (nI w))]) hx hb dX7_ordered_93 hl (k := 3) rfl (ta_inc1 _) (by decide) rfl (fun ls hl => ?_)
                                refine lv_iinc (v := nI (mi + 1)) (lv' := [(6, .int (nI (mi + 1))), (3, .int (nI (cn + 1))), (4, .int (nI (10 * kx + mi))), (5, .int (nI kx)), (0, .ref (o 0)), (1, .int (nI a)), (2, .int (nI w))]) hx hb dX7_ordered_96 hl (k := 2) rfl (ta_inc1 _) (by decide) rfl (fun ls hl => ?_)
                                refine lv_goto (tgt := 56) hx hb dX7_ordered_99 (by decide) ?_
                                have hop : (tg_oP t g a n c_ m_) (10 * kx + mi) := ⟨by omega, hso39⟩
                                have hcn4 : cn + 1 = tg_cnt (tg_oP t g a n c_ m_) (10 * kx + (mi + 1)) := by rw [show 10 * kx + (mi + 1) = 10 * kx + mi + 1 by omega, tg_cnt_y hop, hcn2]
                                have hfo4 : (cn + 1 = 0 ∧ 10 * kx + mi = 4294967295 ∧ tg_lea (tg_oP t g a n c_ m_) 50 0 = tg_lea (tg_oP t g a n c_ m_) (50 - (10 * kx + (mi + 1))) (10 * kx + (mi + 1))) ∨ (0 < cn + 1 ∧ 10 * kx + mi = tg_lea (tg_oP t g a n c_ m_) 50 0) := by
                                  refine Or.inr ⟨by omega, ?_⟩
                                  rcases hfo2 with ⟨h7, h8, h9⟩ | ⟨h7, h8⟩
                                  · rw [h9, show 50 - (10 * kx + mi) = (50 - (10 * kx + mi + 1)) + 1 by omega, tg_lea_y hop]
                                  · exfalso; omega
                                exact ih_56 (mi + 1) (cn + 1) (10 * kx + mi) ut_36 ug_37 uX_38 (by omega) hcn4 hfo4 (by omega) _ _ _ hP hD hS (lv_sub hl [0, 3, 2, 1, 4, 5, 6] rfl)
                          · obtain ⟨ut_45, ug_46, uX_47⟩ := u34
                            try dsimp only at h0
                            obtain ⟨hso48, rfl⟩ := h0
                            have hP : va_P D vwCl ([(o 0, .inr (7, [.ref (x 0), .ref (tq 0), .ref rd, .ref (q 0), .ref (tr 0), .ref (pz 0), .ref (o 1), .ref (o 2), .ref (sz 0)]))] ++ ((dyW k q t g X) ++ ((dyW k tr ut_45 ug_46 uX_47) ++ (siW k sz n c_ m_)))) H := hP
                            have hD : va_D A ([(o 0, .inr (7, [.ref (x 0), .ref (tq 0), .ref rd, .ref (q 0), .ref (tr 0), .ref (pz 0), .ref (o 1), .ref (o 2), .ref (sz 0)]))] ++ ((dyW k q t g X) ++ ((dyW k tr ut_45 ug_46 uX_47) ++ (siW k sz n c_ m_)))) := hD
                            have hcb := tg_cnt_b (tg_oP t g a n c_ m_) (10 * kx + mi)
                            refine lv_if_eq (tgt := 96) hx hb dX7_ordered_72 (by decide) (fun c49 => ?_) (fun c49 => ?_)
                            · refine lv_iinc (v := nI (mi + 1)) (lv' := [(6, .int (nI (mi + 1))), (5, .int (nI kx)), (4, .int (nI fo)), (3, .int (nI cn)), (0, .ref (o 0)), (1, .int (nI a)), (2, .int (nI w))]) hx hb dX7_ordered_96 hl (k := 0) rfl (ta_inc1 _) (by decide) rfl (fun ls hl => ?_)
                              refine lv_goto (tgt := 56) hx hb dX7_ordered_99 (by decide) ?_
                              have hop : ¬ (tg_oP t g a n c_ m_) (10 * kx + mi) := fun h9 => absurd h9.2 hso48
                              have hcn4 : cn = tg_cnt (tg_oP t g a n c_ m_) (10 * kx + (mi + 1)) := by rw [show 10 * kx + (mi + 1) = 10 * kx + mi + 1 by omega, tg_cnt_n hop]; exact hcn2
                              have hfo4 : (cn = 0 ∧ fo = 4294967295 ∧ tg_lea (tg_oP t g a n c_ m_) 50 0 = tg_lea (tg_oP t g a n c_ m_) (50 - (10 * kx + (mi + 1))) (10 * kx + (mi + 1))) ∨ (0 < cn ∧ fo = tg_lea (tg_oP t g a n c_ m_) 50 0) := by
                                rcases hfo2 with ⟨h7, h8, h9⟩ | h7
                                · exact Or.inl ⟨h7, h8, by rw [h9, show 50 - (10 * kx + mi) = (50 - (10 * kx + (mi + 1))) + 1 by omega, tg_lea_n hop]; rfl⟩
                                · exact Or.inr h7
                              exact ih_56 (mi + 1) cn fo ut_45 ug_46 uX_47 (by omega) hcn4 hfo4 (by omega) _ _ _ hP hD hS (lv_sub hl [0, 1, 2, 3, 4, 5, 6] rfl)
                            · exact absurd c49 (by decide)
                    have h0P : ¬ (tg_oP t g a n c_ m_) (10 * kx) := fun h => absurd h.1 (by omega)
                    have hcn2 : cn = tg_cnt (tg_oP t g a n c_ m_) (10 * kx + 1) := by rw [tg_cnt_n h0P]; exact hcn
                    have hfo2 : (cn = 0 ∧ fo = 4294967295 ∧ tg_lea (tg_oP t g a n c_ m_) 50 0 = tg_lea (tg_oP t g a n c_ m_) (50 - (10 * kx + 1)) (10 * kx + 1)) ∨ (0 < cn ∧ fo = tg_lea (tg_oP t g a n c_ m_) 50 0) := by
                      rcases hfo with ⟨h7, h8, h9⟩ | h7
                      · exact Or.inl ⟨h7, h8, by rw [h9, show 50 - 10 * kx = (50 - (10 * kx + 1)) + 1 by omega, tg_lea_n h0P]⟩
                      · exact Or.inr h7
                    exact loop_56 ((10 - 1) + 1) 1 cn fo t1 g1 X1 (by omega) hcn2 hfo2 (Nat.lt_succ_self _) _ _ _ hP hD hS (lv_sub hl [0, 1, 2, 3, 4, 5, 6] rfl)
              exact loop_47 ((5 - 0) + 1) 0 0 4294967295 tt gg XX (by omega) (by omega) (by omega) (by omega) rfl (Or.inl ⟨rfl, rfl, rfl⟩) (Nat.lt_succ_self _) _ _ _ hP hD hS (lv_sub hl [0, 1, 2, 3, 4, 5] rfl)
            · refine ta_iconst C 4294967295 dX7_ordered_37 (by decide) ?_
              have e1 : sp_ordered t g n c_ m_ a w = 4294967295 := by
                unfold sp_ordered
                rw [if_pos (by omega), if_pos (by omega), if_pos (by omega)]
              exact ret (nI 4294967295) (tt, gg, XX) dX7_ordered_38 rfl (by rw [e1]) hP hD hS
        · refine ta_bipush C 4294967293 dX7_ordered_19 (by decide) ?_
          have e1 : sp_ordered t g n c_ m_ a w = 4294967293 := by
            unfold sp_ordered
            rw [if_pos (by omega), if_neg (by omega)]
          exact ret (nI 4294967293) (tt, gg, XX) dX7_ordered_21 rfl (by rw [e1]) hP hD hS
    · exact absurd c5 (by decide)
  · obtain ⟨hi50, rfl⟩ := h0
    have hP : va_P D vwCl ([(o 0, .inr (7, [.ref (x 0), .ref (tq 0), .ref rd, .ref (q 0), .ref (tr 0), .ref (pz 0), .ref (o 1), .ref (o 2), .ref (sz 0)]))] ++ ((dyW k q t g X) ++ ((dyW k tr tt gg XX) ++ (siW k sz n c_ m_)))) H := hP
    have hD : va_D A ([(o 0, .inr (7, [.ref (x 0), .ref (tq 0), .ref rd, .ref (q 0), .ref (tr 0), .ref (pz 0), .ref (o 1), .ref (o 2), .ref (sz 0)]))] ++ ((dyW k q t g X) ++ ((dyW k tr tt gg XX) ++ (siW k sz n c_ m_)))) := hD
    refine lv_if_ne (tgt := 10) hx hb dX7_ordered_4 (by decide) (fun c51 => ?_) (fun c51 => ?_)
    · exact absurd c51 (by decide)
    · refine ta_bipush C 4294967294 dX7_ordered_7 (by decide) ?_
      have e1 : sp_ordered t g n c_ m_ a w = 4294967294 := by
        unfold sp_ordered
        rw [if_neg (by omega)]
      exact ret (nI 4294967294) (tt, gg, XX) dX7_ordered_9 rfl (by rw [e1]) hP hD hS
