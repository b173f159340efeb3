def tg_sum (f : Nat → Nat) : Nat → Nat
  | 0 => 0
  | n + 1 => tg_sum f n + f n
set_option maxHeartbeats 4000000 in
set_option maxRecDepth 100000 in
theorem c_X0_cell (l : Launch) (D : va_G) (k : ta_C) (q : Nat → Nat) (t : Nat → Nat) (g : Nat → Nat) (X : Nat → Nat → Nat) : ta_Mi (S := Unit) l D k yX0_cell cX0_cell 1 .int 0 0 [.ref (q 0)] (dyW k q t g X) (fun r _ => r = nI (g 2)) (fun u => (dyW k q t g X)) := by
  refine ta_enter_i (by decide) (Nat.le_of_ble_eq_true rfl) ?_
  intro p e s m below meth c A ls Q C ret hP hD hS hl
  have C : ta_At p l D k s m ([.ref (q 0)] : List Value).toArray c RX0 cX0_cell 1 A := C
  have hx := C.1.1
  have hb := C.1.2.1
  have hl : lv_has ls 1 [(0, .ref (q 0))] := hl
  obtain ⟨H, hH⟩ : ∃ H, H = s.heap := ⟨_, rfl⟩
  obtain ⟨locs, hlocs⟩ : ∃ q : List Loc, q = [] := ⟨_, rfl⟩
  have hP : va_P D vwCl (dyW k q t g X) H := by rw [hH]; exact hP
  have hS : va_S A s.heap H locs := by rw [hH, hlocs]; exact hS
  rw [← hlocs]
  suffices hgoal : W p l e ({ frames := 0, cells := 0, slots := 0, locals := 0 }) s m ([.ref (q 0)] : List Value).toArray below meth c H locs 0 0 Q (F0 m 0 ls []) by rw [hH] at hgoal; exact hgoal
  clear hH hlocs
  have hP : va_P D vwCl [(q 0, .inr (0, [.int (nI (t 0)), .int (nI (t 1)), .int (nI (t 2)), .int (nI (g 0)), .int (nI (g 1)), .int (nI (g 2 / t 0)), .int (nI (g 2 % t 0)), .int (nI (g 3)), .int (nI (g 4)), .int (nI (g 5)), .ref (q 1), .ref (q 2), .ref (q 3), .ref (q 4)])), (q 1, .inl (k.1 0, 36, .inl (ta_e (tg_mud g)))), (q 2, .inl (k.1 0, 4, .inl (ta_e (tg_wal g)))), (q 3, .inl (k.1 0, 2, .inl (ta_e (tg_kne g)))), (q 4, .inl (k.1 2, 2, .inr (.inr (.inr (.inr (ta_dr (q 5) (q 8))))))), (q 5, .inr (1, [.ref (q 6), .ref (q 7), .int (nI (g 6))])), (q 6, .inl (k.1 0, 8, .inl (ta_e (X 0)))), (q 7, .inl (k.1 0, 8, .inl (ta_e (X 1)))), (q 8, .inr (1, [.ref (q 9), .ref (q 10), .int (nI (g 7))])), (q 9, .inl (k.1 0, 8, .inl (ta_e (X 2)))), (q 10, .inl (k.1 0, 8, .inl (ta_e (X 3))))] H := hP
  have hD : va_D A [(q 0, .inr (0, [.int (nI (t 0)), .int (nI (t 1)), .int (nI (t 2)), .int (nI (g 0)), .int (nI (g 1)), .int (nI (g 2 / t 0)), .int (nI (g 2 % t 0)), .int (nI (g 3)), .int (nI (g 4)), .int (nI (g 5)), .ref (q 1), .ref (q 2), .ref (q 3), .ref (q 4)])), (q 1, .inl (k.1 0, 36, .inl (ta_e (tg_mud g)))), (q 2, .inl (k.1 0, 4, .inl (ta_e (tg_wal g)))), (q 3, .inl (k.1 0, 2, .inl (ta_e (tg_kne g)))), (q 4, .inl (k.1 2, 2, .inr (.inr (.inr (.inr (ta_dr (q 5) (q 8))))))), (q 5, .inr (1, [.ref (q 6), .ref (q 7), .int (nI (g 6))])), (q 6, .inl (k.1 0, 8, .inl (ta_e (X 0)))), (q 7, .inl (k.1 0, 8, .inl (ta_e (X 1)))), (q 8, .inr (1, [.ref (q 9), .ref (q 10), .int (nI (g 7))])), (q 9, .inl (k.1 0, 8, .inl (ta_e (X 2)))), (q 10, .inl (k.1 0, 8, .inl (ta_e (X 3))))] := hD
  refine lv_aload_n hx hb dX0_cell_0 rfl (lv_at hl 0 rfl) ?_
  refine ta_get C hP 0 inlX0 rfl rfl 5 (by decide) tw_105 rfl dX0_cell_1 ?_
  refine lv_aload_n hx hb dX0_cell_4 rfl (lv_at hl 0 rfl) ?_
  refine ta_get C hP 0 inlX0 rfl rfl 0 (by decide) tw_100 rfl dX0_cell_5 ?_
  refine ta_imul C (a := g 2 / t 0) (b := t 0) dX0_cell_8 ?_
  refine lv_aload_n hx hb dX0_cell_9 rfl (lv_at hl 0 rfl) ?_
  refine ta_get C hP 0 inlX0 rfl rfl 6 (by decide) tw_106 rfl dX0_cell_10 ?_
  refine ta_iadd C (a := (g 2 / t 0) * (t 0)) (b := g 2 % t 0) dX0_cell_13 ?_
  exact ret _ () dX0_cell_14 rfl (by rw [Nat.div_add_mod' (g 2) (t 0)]) hP hD hS

set_option maxHeartbeats 4000000 in
set_option maxRecDepth 100000 in
theorem c_X0_cell_r (l : Launch) (D : va_G) (k : ta_C) (o : Nat) (a1 : Nat) (a2 : Nat) (a3 : Nat) (a4 : Nat) (f0 : Nat) (f1 : Nat) (f2 : Nat) (f3 : Nat) (f4 : Nat) (f5 : Nat) (f6 : Nat) (f7 : Nat) (f8 : Nat) (f9 : Nat) : ta_Mi (S := Unit) l D k yX0_cell cX0_cell 1 .int 0 0 [.ref o] [(o, .inr (0, [.int (nI f0), .int (nI f1), .int (nI f2), .int (nI f3), .int (nI f4), .int (nI f5), .int (nI f6), .int (nI f7), .int (nI f8), .int (nI f9), .ref a1, .ref a2, .ref a3, .ref a4]))] (fun r _ => r = nI (f5 * f0 + f6)) (fun u => [(o, .inr (0, [.int (nI f0), .int (nI f1), .int (nI f2), .int (nI f3), .int (nI f4), .int (nI f5), .int (nI f6), .int (nI f7), .int (nI f8), .int (nI f9), .ref a1, .ref a2, .ref a3, .ref a4]))]) := by
  refine ta_enter_i (by decide) (Nat.le_of_ble_eq_true rfl) ?_
  intro p e s m below meth c A ls Q C ret hP hD hS hl
  have C : ta_At p l D k s m ([.ref o] : List Value).toArray c RX0 cX0_cell 1 A := C
  have hx := C.1.1
  have hb := C.1.2.1
  have hl : lv_has ls 1 [(0, .ref o)] := hl
  obtain ⟨H, hH⟩ : ∃ H, H = s.heap := ⟨_, rfl⟩
  obtain ⟨locs, hlocs⟩ : ∃ q : List Loc, q = [] := ⟨_, rfl⟩
  have hP : va_P D vwCl [(o, .inr (0, [.int (nI f0), .int (nI f1), .int (nI f2), .int (nI f3), .int (nI f4), .int (nI f5), .int (nI f6), .int (nI f7), .int (nI f8), .int (nI f9), .ref a1, .ref a2, .ref a3, .ref a4]))] H := by rw [hH]; exact hP
  have hS : va_S A s.heap H locs := by rw [hH, hlocs]; exact hS
  rw [← hlocs]
  suffices hgoal : W p l e ({ frames := 0, cells := 0, slots := 0, locals := 0 }) s m ([.ref o] : List Value).toArray below meth c H locs 0 0 Q (F0 m 0 ls []) by rw [hH] at hgoal; exact hgoal
  clear hH hlocs
  refine lv_aload_n hx hb dX0_cell_0 rfl (lv_at hl 0 rfl) ?_
  refine ta_get C hP 0 inlX0 rfl rfl 5 (by decide) tw_105 rfl dX0_cell_1 ?_
  refine lv_aload_n hx hb dX0_cell_4 rfl (lv_at hl 0 rfl) ?_
  refine ta_get C hP 0 inlX0 rfl rfl 0 (by decide) tw_100 rfl dX0_cell_5 ?_
  refine ta_imul C (a := f5) (b := f0) dX0_cell_8 ?_
  refine lv_aload_n hx hb dX0_cell_9 rfl (lv_at hl 0 rfl) ?_
  refine ta_get C hP 0 inlX0 rfl rfl 6 (by decide) tw_106 rfl dX0_cell_10 ?_
  refine ta_iadd C (a := f5 * f0) (b := f6) dX0_cell_13 ?_
  exact ret (nI ((f5 * f0) + f6)) () dX0_cell_14 rfl rfl hP hD hS

set_option maxHeartbeats 4000000 in
set_option maxRecDepth 100000 in
theorem c_X0_armyOfHour (l : Launch) (D : va_G) (k : ta_C) (q : Nat → Nat) (t : Nat → Nat) (g : Nat → Nat) (X : Nat → Nat → Nat) (h0 : g 0 < 1073741824) : ta_Mi (S := Unit) l D k yX0_armyOfHour cX0_armyOfHour 1 .int 0 0 [.ref (q 0)] (dyW k q t g X) (fun r _ => r = nI (g 0 % 2)) (fun u => (dyW k q t g X)) := by
  refine ta_enter_i (by decide) (Nat.le_of_ble_eq_true rfl) ?_
  intro p e s m below meth c A ls Q C ret hP hD hS hl
  have C : ta_At p l D k s m ([.ref (q 0)] : List Value).toArray c RX0 cX0_armyOfHour 1 A := C
  have hx := C.1.1
  have hb := C.1.2.1
  have hl : lv_has ls 1 [(0, .ref (q 0))] := hl
  obtain ⟨H, hH⟩ : ∃ H, H = s.heap := ⟨_, rfl⟩
  obtain ⟨locs, hlocs⟩ : ∃ q : List Loc, q = [] := ⟨_, rfl⟩
  have hP : va_P D vwCl (dyW k q t g X) H := by rw [hH]; exact hP
  have hS : va_S A s.heap H locs := by rw [hH, hlocs]; exact hS
  rw [← hlocs]
  suffices hgoal : W p l e ({ frames := 0, cells := 0, slots := 0, locals := 0 }) s m ([.ref (q 0)] : List Value).toArray below meth c H locs 0 0 Q (F0 m 0 ls []) by rw [hH] at hgoal; exact hgoal
  clear hH hlocs
  have hP : va_P D vwCl [(q 0, .inr (0, [.int (nI (t 0)), .int (nI (t 1)), .int (nI (t 2)), .int (nI (g 0)), .int (nI (g 1)), .int (nI (g 2 / t 0)), .int (nI (g 2 % t 0)), .int (nI (g 3)), .int (nI (g 4)), .int (nI (g 5)), .ref (q 1), .ref (q 2), .ref (q 3), .ref (q 4)])), (q 1, .inl (k.1 0, 36, .inl (ta_e (tg_mud g)))), (q 2, .inl (k.1 0, 4, .inl (ta_e (tg_wal g)))), (q 3, .inl (k.1 0, 2, .inl (ta_e (tg_kne g)))), (q 4, .inl (k.1 2, 2, .inr (.inr (.inr (.inr (ta_dr (q 5) (q 8))))))), (q 5, .inr (1, [.ref (q 6), .ref (q 7), .int (nI (g 6))])), (q 6, .inl (k.1 0, 8, .inl (ta_e (X 0)))), (q 7, .inl (k.1 0, 8, .inl (ta_e (X 1)))), (q 8, .inr (1, [.ref (q 9), .ref (q 10), .int (nI (g 7))])), (q 9, .inl (k.1 0, 8, .inl (ta_e (X 2)))), (q 10, .inl (k.1 0, 8, .inl (ta_e (X 3))))] H := hP
  have hD : va_D A [(q 0, .inr (0, [.int (nI (t 0)), .int (nI (t 1)), .int (nI (t 2)), .int (nI (g 0)), .int (nI (g 1)), .int (nI (g 2 / t 0)), .int (nI (g 2 % t 0)), .int (nI (g 3)), .int (nI (g 4)), .int (nI (g 5)), .ref (q 1), .ref (q 2), .ref (q 3), .ref (q 4)])), (q 1, .inl (k.1 0, 36, .inl (ta_e (tg_mud g)))), (q 2, .inl (k.1 0, 4, .inl (ta_e (tg_wal g)))), (q 3, .inl (k.1 0, 2, .inl (ta_e (tg_kne g)))), (q 4, .inl (k.1 2, 2, .inr (.inr (.inr (.inr (ta_dr (q 5) (q 8))))))), (q 5, .inr (1, [.ref (q 6), .ref (q 7), .int (nI (g 6))])), (q 6, .inl (k.1 0, 8, .inl (ta_e (X 0)))), (q 7, .inl (k.1 0, 8, .inl (ta_e (X 1)))), (q 8, .inr (1, [.ref (q 9), .ref (q 10), .int (nI (g 7))])), (q 9, .inl (k.1 0, 8, .inl (ta_e (X 2)))), (q 10, .inl (k.1 0, 8, .inl (ta_e (X 3))))] := hD
  refine lv_aload_n hx hb dX0_armyOfHour_0 rfl (lv_at hl 0 rfl) ?_
  refine ta_get C hP 0 inlX0 rfl rfl 3 (by decide) tw_103 rfl dX0_armyOfHour_1 ?_
  refine ta_iconst C 1 dX0_armyOfHour_4 (by decide) ?_
  refine ta_iand C (a := g 0) (b := 1) 1 (by omega) (by decide) dX0_armyOfHour_5 ?_
  refine ta_nv (y := (g 0) % 2) rfl ?_
  exact ret (nI ((g 0) % 2)) () dX0_armyOfHour_6 rfl rfl hP hD hS

set_option maxHeartbeats 4000000 in
set_option maxRecDepth 100000 in
theorem c_X0_hasCell (l : Launch) (D : va_G) (k : ta_C) (q : Nat → Nat) (t : Nat → Nat) (g : Nat → Nat) (X : Nat → Nat → Nat) (x : Int32) (hw : t 0 * t 1 ≤ 36) : ta_Mi (S := Unit) l D k yX0_hasCell cX0_hasCell 2 .boolean 0 0 [.ref (q 0), .int x] (dyW k q t g X) (fun r _ => (∃ c, c < t 0 * t 1 ∧ x = nI c ∧ r = nI 1) ∨ ((∀ c, c < t 0 * t 1 → x ≠ nI c) ∧ r = nI 0)) (fun u => (dyW k q t g X)) := by
  refine ta_enter_i (by decide) (Nat.le_of_ble_eq_true rfl) ?_
  intro p e s m below meth c A ls Q C ret hP hD hS hl
  have C : ta_At p l D k s m ([.ref (q 0), .int x] : List Value).toArray c RX0 cX0_hasCell 2 A := C
  have hx := C.1.1
  have hb := C.1.2.1
  have hl : lv_has ls 2 [(0, .ref (q 0)), (1, .int x)] := hl
  obtain ⟨H, hH⟩ : ∃ H, H = s.heap := ⟨_, rfl⟩
  obtain ⟨locs, hlocs⟩ : ∃ q : List Loc, q = [] := ⟨_, rfl⟩
  have hP : va_P D vwCl (dyW k q t g X) H := by rw [hH]; exact hP
  have hS : va_S A s.heap H locs := by rw [hH, hlocs]; exact hS
  rw [← hlocs]
  suffices hgoal : W p l e ({ frames := 0, cells := 0, slots := 0, locals := 0 }) s m ([.ref (q 0), .int x] : List Value).toArray below meth c H locs 0 0 Q (F0 m 0 ls []) by rw [hH] at hgoal; exact hgoal
  clear hH hlocs
  have hP : va_P D vwCl [(q 0, .inr (0, [.int (nI (t 0)), .int (nI (t 1)), .int (nI (t 2)), .int (nI (g 0)), .int (nI (g 1)), .int (nI (g 2 / t 0)), .int (nI (g 2 % t 0)), .int (nI (g 3)), .int (nI (g 4)), .int (nI (g 5)), .ref (q 1), .ref (q 2), .ref (q 3), .ref (q 4)])), (q 1, .inl (k.1 0, 36, .inl (ta_e (tg_mud g)))), (q 2, .inl (k.1 0, 4, .inl (ta_e (tg_wal g)))), (q 3, .inl (k.1 0, 2, .inl (ta_e (tg_kne g)))), (q 4, .inl (k.1 2, 2, .inr (.inr (.inr (.inr (ta_dr (q 5) (q 8))))))), (q 5, .inr (1, [.ref (q 6), .ref (q 7), .int (nI (g 6))])), (q 6, .inl (k.1 0, 8, .inl (ta_e (X 0)))), (q 7, .inl (k.1 0, 8, .inl (ta_e (X 1)))), (q 8, .inr (1, [.ref (q 9), .ref (q 10), .int (nI (g 7))])), (q 9, .inl (k.1 0, 8, .inl (ta_e (X 2)))), (q 10, .inl (k.1 0, 8, .inl (ta_e (X 3))))] H := hP
  have hD : va_D A [(q 0, .inr (0, [.int (nI (t 0)), .int (nI (t 1)), .int (nI (t 2)), .int (nI (g 0)), .int (nI (g 1)), .int (nI (g 2 / t 0)), .int (nI (g 2 % t 0)), .int (nI (g 3)), .int (nI (g 4)), .int (nI (g 5)), .ref (q 1), .ref (q 2), .ref (q 3), .ref (q 4)])), (q 1, .inl (k.1 0, 36, .inl (ta_e (tg_mud g)))), (q 2, .inl (k.1 0, 4, .inl (ta_e (tg_wal g)))), (q 3, .inl (k.1 0, 2, .inl (ta_e (tg_kne g)))), (q 4, .inl (k.1 2, 2, .inr (.inr (.inr (.inr (ta_dr (q 5) (q 8))))))), (q 5, .inr (1, [.ref (q 6), .ref (q 7), .int (nI (g 6))])), (q 6, .inl (k.1 0, 8, .inl (ta_e (X 0)))), (q 7, .inl (k.1 0, 8, .inl (ta_e (X 1)))), (q 8, .inr (1, [.ref (q 9), .ref (q 10), .int (nI (g 7))])), (q 9, .inl (k.1 0, 8, .inl (ta_e (X 2)))), (q 10, .inl (k.1 0, 8, .inl (ta_e (X 3))))] := hD
  refine lv_iload_n hx hb dX0_hasCell_0 rfl (lv_at hl 1 rfl) ?_
  refine lv_if_lt (tgt := 21) hx hb dX0_hasCell_1 (by decide) (fun c1 => ?_) (fun c1 => ?_)
  · have hfin : (∃ c, c < t 0 * t 1 ∧ x = nI c ∧ nI 0 = nI 1) ∨ ((∀ c, c < t 0 * t 1 → x ≠ nI c) ∧ nI 0 = nI 0) := Or.inr ⟨fun j hj e => absurd (e ▸ c1) (nI_pos (by omega)), rfl⟩
    refine ta_iconst C 0 dX0_hasCell_21 (by decide) ?_
    exact ret _ () dX0_hasCell_22 (by decide) hfin hP hD hS
  · refine lv_iload_n hx hb dX0_hasCell_4 rfl (lv_at hl 1 rfl) ?_
    refine lv_aload_n hx hb dX0_hasCell_5 rfl (lv_at hl 0 rfl) ?_
    refine ta_get C hP 0 inlX0 rfl rfl 0 (by decide) tw_100 rfl dX0_hasCell_6 ?_
    refine lv_aload_n hx hb dX0_hasCell_9 rfl (lv_at hl 0 rfl) ?_
    refine ta_get C hP 0 inlX0 rfl rfl 1 (by decide) tw_101 rfl dX0_hasCell_10 ?_
    refine ta_imul C (a := t 0) (b := t 1) dX0_hasCell_13 ?_
    refine lv_icmp_ge (tgt := 21) hx hb dX0_hasCell_14 (by decide) (fun c2 => ?_) (fun c2 => ?_)
    · have hfin : (∃ c, c < t 0 * t 1 ∧ x = nI c ∧ nI 0 = nI 1) ∨ ((∀ c, c < t 0 * t 1 → x ≠ nI c) ∧ nI 0 = nI 0) := Or.inr ⟨fun j hj e => nI_ge hj (by omega) (e ▸ c2), rfl⟩
      refine ta_iconst C 0 dX0_hasCell_21 (by decide) ?_
      exact ret _ () dX0_hasCell_22 (by decide) hfin hP hD hS
    · obtain ⟨j, hj, rfl⟩ := nI_of c1
      have hfin : (∃ c, c < t 0 * t 1 ∧ nI j = nI c ∧ nI 1 = nI 1) ∨ ((∀ c, c < t 0 * t 1 → nI j ≠ nI c) ∧ nI 1 = nI 0) := Or.inl ⟨j, Nat.lt_of_not_le (fun h => c2 (nI_le h hj)), rfl, rfl⟩
      refine ta_iconst C 1 dX0_hasCell_17 (by decide) ?_
      refine lv_goto (tgt := 22) hx hb dX0_hasCell_18 (by decide) ?_
      exact ret _ () dX0_hasCell_22 (by decide) hfin hP hD hS

set_option maxHeartbeats 4000000 in
set_option maxRecDepth 100000 in
theorem c_X0_mudInAll (l : Launch) (D : va_G) (k : ta_C) (q : Nat → Nat) (t : Nat → Nat) (g : Nat → Nat) (X : Nat → Nat → Nat) : ta_Mi (S := Unit) l D k yX0_mudInAll cX0_mudInAll 3 .int 0 0 [.ref (q 0)] (dyW k q t g X) (fun r _ => r = nI (tg_sum (tg_mud g) 36)) (fun u => (dyW k q t g X)) := by
  refine ta_enter_i (by decide) (Nat.le_of_ble_eq_true rfl) ?_
  intro p e s m below meth c A ls Q C ret hP hD hS hl
  have C : ta_At p l D k s m ([.ref (q 0)] : List Value).toArray c RX0 cX0_mudInAll 3 A := C
  have hx := C.1.1
  have hb := C.1.2.1
  have hl : lv_has ls 3 [(0, .ref (q 0))] := hl
  obtain ⟨H, hH⟩ : ∃ H, H = s.heap := ⟨_, rfl⟩
  obtain ⟨locs, hlocs⟩ : ∃ q : List Loc, q = [] := ⟨_, rfl⟩
  have hP : va_P D vwCl (dyW k q t g X) H := by rw [hH]; exact hP
  have hS : va_S A s.heap H locs := by rw [hH, hlocs]; exact hS
  rw [← hlocs]
  suffices hgoal : W p l e ({ frames := 0, cells := 0, slots := 0, locals := 0 }) s m ([.ref (q 0)] : List Value).toArray below meth c H locs 0 0 Q (F0 m 0 ls []) by rw [hH] at hgoal; exact hgoal
  clear hH hlocs
  have hP : va_P D vwCl [(q 0, .inr (0, [.int (nI (t 0)), .int (nI (t 1)), .int (nI (t 2)), .int (nI (g 0)), .int (nI (g 1)), .int (nI (g 2 / t 0)), .int (nI (g 2 % t 0)), .int (nI (g 3)), .int (nI (g 4)), .int (nI (g 5)), .ref (q 1), .ref (q 2), .ref (q 3), .ref (q 4)])), (q 1, .inl (k.1 0, 36, .inl (ta_e (tg_mud g)))), (q 2, .inl (k.1 0, 4, .inl (ta_e (tg_wal g)))), (q 3, .inl (k.1 0, 2, .inl (ta_e (tg_kne g)))), (q 4, .inl (k.1 2, 2, .inr (.inr (.inr (.inr (ta_dr (q 5) (q 8))))))), (q 5, .inr (1, [.ref (q 6), .ref (q 7), .int (nI (g 6))])), (q 6, .inl (k.1 0, 8, .inl (ta_e (X 0)))), (q 7, .inl (k.1 0, 8, .inl (ta_e (X 1)))), (q 8, .inr (1, [.ref (q 9), .ref (q 10), .int (nI (g 7))])), (q 9, .inl (k.1 0, 8, .inl (ta_e (X 2)))), (q 10, .inl (k.1 0, 8, .inl (ta_e (X 3))))] H := hP
  have hD : va_D A [(q 0, .inr (0, [.int (nI (t 0)), .int (nI (t 1)), .int (nI (t 2)), .int (nI (g 0)), .int (nI (g 1)), .int (nI (g 2 / t 0)), .int (nI (g 2 % t 0)), .int (nI (g 3)), .int (nI (g 4)), .int (nI (g 5)), .ref (q 1), .ref (q 2), .ref (q 3), .ref (q 4)])), (q 1, .inl (k.1 0, 36, .inl (ta_e (tg_mud g)))), (q 2, .inl (k.1 0, 4, .inl (ta_e (tg_wal g)))), (q 3, .inl (k.1 0, 2, .inl (ta_e (tg_kne g)))), (q 4, .inl (k.1 2, 2, .inr (.inr (.inr (.inr (ta_dr (q 5) (q 8))))))), (q 5, .inr (1, [.ref (q 6), .ref (q 7), .int (nI (g 6))])), (q 6, .inl (k.1 0, 8, .inl (ta_e (X 0)))), (q 7, .inl (k.1 0, 8, .inl (ta_e (X 1)))), (q 8, .inr (1, [.ref (q 9), .ref (q 10), .int (nI (g 7))])), (q 9, .inl (k.1 0, 8, .inl (ta_e (X 2)))), (q 10, .inl (k.1 0, 8, .inl (ta_e (X 3))))] := hD
  refine ta_iconst C 0 dX0_mudInAll_0 (by decide) ?_
  refine lv_istore_n (lv' := [(1, .int (nI 0)), (0, .ref (q 0))]) hx hb dX0_mudInAll_1 rfl hl (by decide) rfl (fun ls hl => ?_)
  refine ta_iconst C 0 dX0_mudInAll_2 (by decide) ?_
  refine lv_istore_n (lv' := [(2, .int (nI 0)), (1, .int (nI 0)), (0, .ref (q 0))]) hx hb dX0_mudInAll_3 rfl hl (by decide) rfl (fun ls hl => ?_)
  have loop_4 : ∀ (N_4 : Nat) (i : Nat), (i ≤ 36) → 36 - i < N_4 → ∀ (H : Heap) (locs : List Loc) (ls : Array Slot), va_P D vwCl [(q 0, .inr (0, [.int (nI (t 0)), .int (nI (t 1)), .int (nI (t 2)), .int (nI (g 0)), .int (nI (g 1)), .int (nI (g 2 / t 0)), .int (nI (g 2 % t 0)), .int (nI (g 3)), .int (nI (g 4)), .int (nI (g 5)), .ref (q 1), .ref (q 2), .ref (q 3), .ref (q 4)])), (q 1, .inl (k.1 0, 36, .inl (ta_e (tg_mud g)))), (q 2, .inl (k.1 0, 4, .inl (ta_e (tg_wal g)))), (q 3, .inl (k.1 0, 2, .inl (ta_e (tg_kne g)))), (q 4, .inl (k.1 2, 2, .inr (.inr (.inr (.inr (ta_dr (q 5) (q 8))))))), (q 5, .inr (1, [.ref (q 6), .ref (q 7), .int (nI (g 6))])), (q 6, .inl (k.1 0, 8, .inl (ta_e (X 0)))), (q 7, .inl (k.1 0, 8, .inl (ta_e (X 1)))), (q 8, .inr (1, [.ref (q 9), .ref (q 10), .int (nI (g 7))])), (q 9, .inl (k.1 0, 8, .inl (ta_e (X 2)))), (q 10, .inl (k.1 0, 8, .inl (ta_e (X 3))))] H → va_D A [(q 0, .inr (0, [.int (nI (t 0)), .int (nI (t 1)), .int (nI (t 2)), .int (nI (g 0)), .int (nI (g 1)), .int (nI (g 2 / t 0)), .int (nI (g 2 % t 0)), .int (nI (g 3)), .int (nI (g 4)), .int (nI (g 5)), .ref (q 1), .ref (q 2), .ref (q 3), .ref (q 4)])), (q 1, .inl (k.1 0, 36, .inl (ta_e (tg_mud g)))), (q 2, .inl (k.1 0, 4, .inl (ta_e (tg_wal g)))), (q 3, .inl (k.1 0, 2, .inl (ta_e (tg_kne g)))), (q 4, .inl (k.1 2, 2, .inr (.inr (.inr (.inr (ta_dr (q 5) (q 8))))))), (q 5, .inr (1, [.ref (q 6), .ref (q 7), .int (nI (g 6))])), (q 6, .inl (k.1 0, 8, .inl (ta_e (X 0)))), (q 7, .inl (k.1 0, 8, .inl (ta_e (X 1)))), (q 8, .inr (1, [.ref (q 9), .ref (q 10), .int (nI (g 7))])), (q 9, .inl (k.1 0, 8, .inl (ta_e (X 2)))), (q 10, .inl (k.1 0, 8, .inl (ta_e (X 3))))] → va_S A s.heap H locs → lv_has ls 3 [(2, .int (nI i)), (1, .int (nI (tg_sum (tg_mud g) i))), (0, .ref (q 0))] → W p l e ({ frames := 0, cells := 0, slots := 0, locals := 0 }) s m ([.ref (q 0)] : List Value).toArray below meth c H locs 0 0 Q (F0 m 4 ls []) := by
    clear hP hD hS hl
    intro N_4
    induction N_4 with
    | zero =>
      intro i h1 hf_4
      exact absurd hf_4 (Nat.not_lt_zero _)
    | succ N_4 ih_4 =>
      intro i h1 hf_4 H locs ls hP hD hS hl
      refine lv_iload_n hx hb dX0_mudInAll_4 rfl (lv_at hl 0 rfl) ?_
      refine lv_aload_n hx hb dX0_mudInAll_5 rfl (lv_at hl 2 rfl) ?_
      refine ta_get C hP 0 inlX0 rfl rfl 10 (by decide) tw_78 rfl dX0_mudInAll_6 ?_
      refine ta_alen C hP 1 0 rfl rfl 36 rfl dX0_mudInAll_9 ?_
      refine ta_cge C (a := i) (b := 36) (tgt := 28) (by omega) (by omega) dX0_mudInAll_10 (by decide) (fun c1 => ?_) (fun c1 => ?_)
      · refine lv_iload_n hx hb dX0_mudInAll_28 rfl (lv_at hl 1 rfl) ?_
        obtain rfl : i = 36 := by omega
        exact ret _ () dX0_mudInAll_29 rfl rfl hP hD hS
      · refine lv_iload_n hx hb dX0_mudInAll_13 rfl (lv_at hl 1 rfl) ?_
        refine lv_aload_n hx hb dX0_mudInAll_14 rfl (lv_at hl 2 rfl) ?_
        refine ta_get C hP 0 inlX0 rfl rfl 10 (by decide) tw_78 rfl dX0_mudInAll_15 ?_
        refine lv_iload_n hx hb dX0_mudInAll_18 rfl (lv_at hl 0 rfl) ?_
        refine ta_iald C hP 1 rfl (i := i) (by omega) dX0_mudInAll_19 ?_
        refine ta_iadd C (a := tg_sum (tg_mud g) i) (b := (tg_mud g) i) dX0_mudInAll_20 ?_
        refine lv_istore_n (lv' := [(1, .int (nI ((tg_sum (tg_mud g) i) + ((tg_mud g) i)))), (2, .int (nI i)), (0, .ref (q 0))]) hx hb dX0_mudInAll_21 rfl hl (by decide) rfl (fun ls hl => ?_)
        refine lv_iinc (v := nI (i + 1)) (lv' := [(2, .int (nI (i + 1))), (1, .int (nI ((tg_sum (tg_mud g) i) + ((tg_mud g) i)))), (0, .ref (q 0))]) hx hb dX0_mudInAll_22 hl (k := 1) rfl (ta_inc1 _) (by decide) rfl (fun ls hl => ?_)
        refine lv_goto (tgt := 4) hx hb dX0_mudInAll_25 (by decide) ?_
        exact ih_4 (i + 1) (by omega) (by omega) _ _ _ hP hD hS (lv_sub hl [0, 1, 2] rfl)
  exact loop_4 ((36 - 0) + 1) 0 (by omega) (Nat.lt_succ_self _) _ _ _ hP hD hS (lv_sub hl [0, 1, 2] rfl)

set_option maxHeartbeats 4000000 in
set_option maxRecDepth 100000 in
theorem c_X0_windOn (l : Launch) (D : va_G) (k : ta_C) (q : Nat → Nat) (t : Nat → Nat) (g : Nat → Nat) (X : Nat → Nat → Nat) (n : Nat) (h1 : g 1 + n < 2147483648) (h2 : t 2 < 2147483648) : ta_Mv (S := Unit) l D k yX0_windOn cX0_windOn 2 0 0 [.ref (q 0), .int (nI n)] (dyW k q t g X) (fun _ => True) (fun u => (dyW k q t (tg_wind t g n) X)) := by
  refine ta_enter_v (by decide) (Nat.le_of_ble_eq_true rfl) ?_
  intro p e s m below meth c A ls Q C ret hP hD hS hl
  have C : ta_At p l D k s m ([.ref (q 0), .int (nI n)] : List Value).toArray c RX0 cX0_windOn 2 A := C
  have hx := C.1.1
  have hb := C.1.2.1
  have hl : lv_has ls 2 [(0, .ref (q 0)), (1, .int (nI n))] := hl
  obtain ⟨H, hH⟩ : ∃ H, H = s.heap := ⟨_, rfl⟩
  obtain ⟨locs, hlocs⟩ : ∃ q : List Loc, q = [] := ⟨_, rfl⟩
  have hP : va_P D vwCl (dyW k q t g X) H := by rw [hH]; exact hP
  have hS : va_S A s.heap H locs := by rw [hH, hlocs]; exact hS
  rw [← hlocs]
  suffices hgoal : W p l e ({ frames := 0, cells := 0, slots := 0, locals := 0 }) s m ([.ref (q 0), .int (nI n)] : List Value).toArray below meth c H locs 0 0 Q (F0 m 0 ls []) by rw [hH] at hgoal; exact hgoal
  clear hH hlocs
  have hP : va_P D vwCl [(q 0, .inr (0, [.int (nI (t 0)), .int (nI (t 1)), .int (nI (t 2)), .int (nI (g 0)), .int (nI (g 1)), .int (nI (g 2 / t 0)), .int (nI (g 2 % t 0)), .int (nI (g 3)), .int (nI (g 4)), .int (nI (g 5)), .ref (q 1), .ref (q 2), .ref (q 3), .ref (q 4)])), (q 1, .inl (k.1 0, 36, .inl (ta_e (tg_mud g)))), (q 2, .inl (k.1 0, 4, .inl (ta_e (tg_wal g)))), (q 3, .inl (k.1 0, 2, .inl (ta_e (tg_kne g)))), (q 4, .inl (k.1 2, 2, .inr (.inr (.inr (.inr (ta_dr (q 5) (q 8))))))), (q 5, .inr (1, [.ref (q 6), .ref (q 7), .int (nI (g 6))])), (q 6, .inl (k.1 0, 8, .inl (ta_e (X 0)))), (q 7, .inl (k.1 0, 8, .inl (ta_e (X 1)))), (q 8, .inr (1, [.ref (q 9), .ref (q 10), .int (nI (g 7))])), (q 9, .inl (k.1 0, 8, .inl (ta_e (X 2)))), (q 10, .inl (k.1 0, 8, .inl (ta_e (X 3))))] H := hP
  have hD : va_D A [(q 0, .inr (0, [.int (nI (t 0)), .int (nI (t 1)), .int (nI (t 2)), .int (nI (g 0)), .int (nI (g 1)), .int (nI (g 2 / t 0)), .int (nI (g 2 % t 0)), .int (nI (g 3)), .int (nI (g 4)), .int (nI (g 5)), .ref (q 1), .ref (q 2), .ref (q 3), .ref (q 4)])), (q 1, .inl (k.1 0, 36, .inl (ta_e (tg_mud g)))), (q 2, .inl (k.1 0, 4, .inl (ta_e (tg_wal g)))), (q 3, .inl (k.1 0, 2, .inl (ta_e (tg_kne g)))), (q 4, .inl (k.1 2, 2, .inr (.inr (.inr (.inr (ta_dr (q 5) (q 8))))))), (q 5, .inr (1, [.ref (q 6), .ref (q 7), .int (nI (g 6))])), (q 6, .inl (k.1 0, 8, .inl (ta_e (X 0)))), (q 7, .inl (k.1 0, 8, .inl (ta_e (X 1)))), (q 8, .inr (1, [.ref (q 9), .ref (q 10), .int (nI (g 7))])), (q 9, .inl (k.1 0, 8, .inl (ta_e (X 2)))), (q 10, .inl (k.1 0, 8, .inl (ta_e (X 3))))] := hD
  refine lv_aload_n hx hb dX0_windOn_0 rfl (lv_at hl 0 rfl) ?_
  refine lv_dup hx hb dX0_windOn_1 rfl ?_
  refine ta_get C hP 0 inlX0 rfl rfl 4 (by decide) tw_104 rfl dX0_windOn_2 ?_
  refine lv_iload_n hx hb dX0_windOn_5 rfl (lv_at hl 1 rfl) ?_
  refine ta_iadd C (a := g 1) (b := n) dX0_windOn_6 ?_
  refine ta_put C hP hD hS 0 inlX0 tyX0 tyX0_ok nmX0 rfl rfl 4 (by decide) tw_104 rfl rfl rfl (Nat.le_of_ble_eq_true rfl) dX0_windOn_7 (fun H locs hP hD hS => ?_)
  have hP : va_P D vwCl [(q 0, .inr (0, [.int (nI (t 0)), .int (nI (t 1)), .int (nI (t 2)), .int (nI (g 0)), .int (nI ((g 1) + n)), .int (nI (g 2 / t 0)), .int (nI (g 2 % t 0)), .int (nI (g 3)), .int (nI (g 4)), .int (nI (g 5)), .ref (q 1), .ref (q 2), .ref (q 3), .ref (q 4)])), (q 1, .inl (k.1 0, 36, .inl (ta_e (tg_mud g)))), (q 2, .inl (k.1 0, 4, .inl (ta_e (tg_wal g)))), (q 3, .inl (k.1 0, 2, .inl (ta_e (tg_kne g)))), (q 4, .inl (k.1 2, 2, .inr (.inr (.inr (.inr (ta_dr (q 5) (q 8))))))), (q 5, .inr (1, [.ref (q 6), .ref (q 7), .int (nI (g 6))])), (q 6, .inl (k.1 0, 8, .inl (ta_e (X 0)))), (q 7, .inl (k.1 0, 8, .inl (ta_e (X 1)))), (q 8, .inr (1, [.ref (q 9), .ref (q 10), .int (nI (g 7))])), (q 9, .inl (k.1 0, 8, .inl (ta_e (X 2)))), (q 10, .inl (k.1 0, 8, .inl (ta_e (X 3))))] H := hP
  have hD : va_D A [(q 0, .inr (0, [.int (nI (t 0)), .int (nI (t 1)), .int (nI (t 2)), .int (nI (g 0)), .int (nI ((g 1) + n)), .int (nI (g 2 / t 0)), .int (nI (g 2 % t 0)), .int (nI (g 3)), .int (nI (g 4)), .int (nI (g 5)), .ref (q 1), .ref (q 2), .ref (q 3), .ref (q 4)])), (q 1, .inl (k.1 0, 36, .inl (ta_e (tg_mud g)))), (q 2, .inl (k.1 0, 4, .inl (ta_e (tg_wal g)))), (q 3, .inl (k.1 0, 2, .inl (ta_e (tg_kne g)))), (q 4, .inl (k.1 2, 2, .inr (.inr (.inr (.inr (ta_dr (q 5) (q 8))))))), (q 5, .inr (1, [.ref (q 6), .ref (q 7), .int (nI (g 6))])), (q 6, .inl (k.1 0, 8, .inl (ta_e (X 0)))), (q 7, .inl (k.1 0, 8, .inl (ta_e (X 1)))), (q 8, .inr (1, [.ref (q 9), .ref (q 10), .int (nI (g 7))])), (q 9, .inl (k.1 0, 8, .inl (ta_e (X 2)))), (q 10, .inl (k.1 0, 8, .inl (ta_e (X 3))))] := hD
  refine lv_aload_n hx hb dX0_windOn_10 rfl (lv_at hl 0 rfl) ?_
  refine ta_get C hP 0 inlX0 rfl rfl 4 (by decide) tw_104 rfl dX0_windOn_11 ?_
  refine lv_aload_n hx hb dX0_windOn_14 rfl (lv_at hl 0 rfl) ?_
  refine ta_get C hP 0 inlX0 rfl rfl 2 (by decide) tw_102 rfl dX0_windOn_15 ?_
  refine ta_clt C (a := (g 1) + n) (b := t 2) (tgt := 36) (by omega) (by omega) dX0_windOn_18 (by decide) (fun c1 => ?_) (fun c1 => ?_)
  · have e : tg_wind t g n = ta_u g 1 (g 1 + n) := if_neg (by omega)
    rw [e] at ret
    exact ret () dX0_windOn_36 trivial (dy_to (t := t) (g := ta_u g 1 (g 1 + n)) ⟨rfl, rfl, rfl, rfl, rfl, rfl, rfl, rfl, rfl, rfl, rfl, rfl⟩ (fun j hj => by simp only [tg_mud, ta_u]; rw [if_neg (by omega)]) (fun j hj => by simp only [tg_wal, ta_u]; rw [if_neg (by omega)]) (fun j hj => by simp only [tg_kne, ta_u]; rw [if_neg (by omega)]) hP) (ta_De hD rfl) hS
  · refine lv_aload_n hx hb dX0_windOn_21 rfl (lv_at hl 0 rfl) ?_
    refine ta_iconst C 0 dX0_windOn_22 (by decide) ?_
    refine ta_put C hP hD hS 0 inlX0 tyX0 tyX0_ok nmX0 rfl rfl 4 (by decide) tw_104 rfl rfl rfl (Nat.le_of_ble_eq_true rfl) dX0_windOn_23 (fun H locs hP hD hS => ?_)
    have hP : va_P D vwCl [(q 0, .inr (0, [.int (nI (t 0)), .int (nI (t 1)), .int (nI (t 2)), .int (nI (g 0)), .int (nI 0), .int (nI (g 2 / t 0)), .int (nI (g 2 % t 0)), .int (nI (g 3)), .int (nI (g 4)), .int (nI (g 5)), .ref (q 1), .ref (q 2), .ref (q 3), .ref (q 4)])), (q 1, .inl (k.1 0, 36, .inl (ta_e (tg_mud g)))), (q 2, .inl (k.1 0, 4, .inl (ta_e (tg_wal g)))), (q 3, .inl (k.1 0, 2, .inl (ta_e (tg_kne g)))), (q 4, .inl (k.1 2, 2, .inr (.inr (.inr (.inr (ta_dr (q 5) (q 8))))))), (q 5, .inr (1, [.ref (q 6), .ref (q 7), .int (nI (g 6))])), (q 6, .inl (k.1 0, 8, .inl (ta_e (X 0)))), (q 7, .inl (k.1 0, 8, .inl (ta_e (X 1)))), (q 8, .inr (1, [.ref (q 9), .ref (q 10), .int (nI (g 7))])), (q 9, .inl (k.1 0, 8, .inl (ta_e (X 2)))), (q 10, .inl (k.1 0, 8, .inl (ta_e (X 3))))] H := hP
    have hD : va_D A [(q 0, .inr (0, [.int (nI (t 0)), .int (nI (t 1)), .int (nI (t 2)), .int (nI (g 0)), .int (nI 0), .int (nI (g 2 / t 0)), .int (nI (g 2 % t 0)), .int (nI (g 3)), .int (nI (g 4)), .int (nI (g 5)), .ref (q 1), .ref (q 2), .ref (q 3), .ref (q 4)])), (q 1, .inl (k.1 0, 36, .inl (ta_e (tg_mud g)))), (q 2, .inl (k.1 0, 4, .inl (ta_e (tg_wal g)))), (q 3, .inl (k.1 0, 2, .inl (ta_e (tg_kne g)))), (q 4, .inl (k.1 2, 2, .inr (.inr (.inr (.inr (ta_dr (q 5) (q 8))))))), (q 5, .inr (1, [.ref (q 6), .ref (q 7), .int (nI (g 6))])), (q 6, .inl (k.1 0, 8, .inl (ta_e (X 0)))), (q 7, .inl (k.1 0, 8, .inl (ta_e (X 1)))), (q 8, .inr (1, [.ref (q 9), .ref (q 10), .int (nI (g 7))])), (q 9, .inl (k.1 0, 8, .inl (ta_e (X 2)))), (q 10, .inl (k.1 0, 8, .inl (ta_e (X 3))))] := hD
    refine lv_aload_n hx hb dX0_windOn_26 rfl (lv_at hl 0 rfl) ?_
    refine lv_dup hx hb dX0_windOn_27 rfl ?_
    refine ta_get C hP 0 inlX0 rfl rfl 3 (by decide) tw_103 rfl dX0_windOn_28 ?_
    refine ta_iconst C 1 dX0_windOn_31 (by decide) ?_
    refine ta_iadd C (a := g 0) (b := 1) dX0_windOn_32 ?_
    refine ta_put C hP hD hS 0 inlX0 tyX0 tyX0_ok nmX0 rfl rfl 3 (by decide) tw_103 rfl rfl rfl (Nat.le_of_ble_eq_true rfl) dX0_windOn_33 (fun H locs hP hD hS => ?_)
    have hP : va_P D vwCl [(q 0, .inr (0, [.int (nI (t 0)), .int (nI (t 1)), .int (nI (t 2)), .int (nI ((g 0) + 1)), .int (nI 0), .int (nI (g 2 / t 0)), .int (nI (g 2 % t 0)), .int (nI (g 3)), .int (nI (g 4)), .int (nI (g 5)), .ref (q 1), .ref (q 2), .ref (q 3), .ref (q 4)])), (q 1, .inl (k.1 0, 36, .inl (ta_e (tg_mud g)))), (q 2, .inl (k.1 0, 4, .inl (ta_e (tg_wal g)))), (q 3, .inl (k.1 0, 2, .inl (ta_e (tg_kne g)))), (q 4, .inl (k.1 2, 2, .inr (.inr (.inr (.inr (ta_dr (q 5) (q 8))))))), (q 5, .inr (1, [.ref (q 6), .ref (q 7), .int (nI (g 6))])), (q 6, .inl (k.1 0, 8, .inl (ta_e (X 0)))), (q 7, .inl (k.1 0, 8, .inl (ta_e (X 1)))), (q 8, .inr (1, [.ref (q 9), .ref (q 10), .int (nI (g 7))])), (q 9, .inl (k.1 0, 8, .inl (ta_e (X 2)))), (q 10, .inl (k.1 0, 8, .inl (ta_e (X 3))))] H := hP
    have hD : va_D A [(q 0, .inr (0, [.int (nI (t 0)), .int (nI (t 1)), .int (nI (t 2)), .int (nI ((g 0) + 1)), .int (nI 0), .int (nI (g 2 / t 0)), .int (nI (g 2 % t 0)), .int (nI (g 3)), .int (nI (g 4)), .int (nI (g 5)), .ref (q 1), .ref (q 2), .ref (q 3), .ref (q 4)])), (q 1, .inl (k.1 0, 36, .inl (ta_e (tg_mud g)))), (q 2, .inl (k.1 0, 4, .inl (ta_e (tg_wal g)))), (q 3, .inl (k.1 0, 2, .inl (ta_e (tg_kne g)))), (q 4, .inl (k.1 2, 2, .inr (.inr (.inr (.inr (ta_dr (q 5) (q 8))))))), (q 5, .inr (1, [.ref (q 6), .ref (q 7), .int (nI (g 6))])), (q 6, .inl (k.1 0, 8, .inl (ta_e (X 0)))), (q 7, .inl (k.1 0, 8, .inl (ta_e (X 1)))), (q 8, .inr (1, [.ref (q 9), .ref (q 10), .int (nI (g 7))])), (q 9, .inl (k.1 0, 8, .inl (ta_e (X 2)))), (q 10, .inl (k.1 0, 8, .inl (ta_e (X 3))))] := hD
    have e : tg_wind t g n = ta_u (ta_u g 1 0) 0 (g 0 + 1) := if_pos (by omega)
    rw [e] at ret
    exact ret () dX0_windOn_36 trivial (dy_to (t := t) (g := ta_u (ta_u g 1 0) 0 (g 0 + 1)) ⟨rfl, rfl, rfl, rfl, rfl, rfl, rfl, rfl, rfl, rfl, rfl, rfl⟩ (fun j hj => by simp only [tg_mud, ta_u]; rw [if_neg (by omega), if_neg (by omega)]) (fun j hj => by simp only [tg_wal, ta_u]; rw [if_neg (by omega), if_neg (by omega)]) (fun j hj => by simp only [tg_kne, ta_u]; rw [if_neg (by omega), if_neg (by omega)]) hP) (ta_De hD rfl) hS

set_option maxHeartbeats 4000000 in
set_option maxRecDepth 100000 in
theorem c_X0_step (l : Launch) (D : va_G) (k : ta_C) (q : Nat → Nat) (t : Nat → Nat) (g : Nat → Nat) (X : Nat → Nat → Nat) (dir : Nat) (hok : tg_ok t g) (hdir : dir < 100) : ta_Mv (S := Unit) l D k yX0_step cX0_step 5 1 40 [.ref (q 0), .int (nI dir)] (dyW k q t g X) (fun _ => True) (fun u => (dyW k q t (tg_step t g (dir % 4)) X)) := by
  refine ta_enter_v (by decide) (Nat.le_of_ble_eq_true rfl) ?_
  intro p e s m below meth c A ls Q C ret hP hD hS hl
  have C : ta_At p l D k s m ([.ref (q 0), .int (nI dir)] : List Value).toArray c RX0 cX0_step 5 A := C
  have hx := C.1.1
  have hb := C.1.2.1
  have hl : lv_has ls 5 [(0, .ref (q 0)), (1, .int (nI dir))] := hl
  obtain ⟨H, hH⟩ : ∃ H, H = s.heap := ⟨_, rfl⟩
  obtain ⟨locs, hlocs⟩ : ∃ q : List Loc, q = [] := ⟨_, rfl⟩
  have hP : va_P D vwCl (dyW k q t g X) H := by rw [hH]; exact hP
  have hS : va_S A s.heap H locs := by rw [hH, hlocs]; exact hS
  rw [← hlocs]
  suffices hgoal : W p l e ({ frames := 1, cells := 0, slots := 0, locals := 40 }) s m ([.ref (q 0), .int (nI dir)] : List Value).toArray below meth c H locs 0 0 Q (F0 m 0 ls []) by rw [hH] at hgoal; exact hgoal
  clear hH hlocs
  have hP : va_P D vwCl [(q 0, .inr (0, [.int (nI (t 0)), .int (nI (t 1)), .int (nI (t 2)), .int (nI (g 0)), .int (nI (g 1)), .int (nI (g 2 / t 0)), .int (nI (g 2 % t 0)), .int (nI (g 3)), .int (nI (g 4)), .int (nI (g 5)), .ref (q 1), .ref (q 2), .ref (q 3), .ref (q 4)])), (q 1, .inl (k.1 0, 36, .inl (ta_e (tg_mud g)))), (q 2, .inl (k.1 0, 4, .inl (ta_e (tg_wal g)))), (q 3, .inl (k.1 0, 2, .inl (ta_e (tg_kne g)))), (q 4, .inl (k.1 2, 2, .inr (.inr (.inr (.inr (ta_dr (q 5) (q 8))))))), (q 5, .inr (1, [.ref (q 6), .ref (q 7), .int (nI (g 6))])), (q 6, .inl (k.1 0, 8, .inl (ta_e (X 0)))), (q 7, .inl (k.1 0, 8, .inl (ta_e (X 1)))), (q 8, .inr (1, [.ref (q 9), .ref (q 10), .int (nI (g 7))])), (q 9, .inl (k.1 0, 8, .inl (ta_e (X 2)))), (q 10, .inl (k.1 0, 8, .inl (ta_e (X 3))))] H := hP
  have hD : va_D A [(q 0, .inr (0, [.int (nI (t 0)), .int (nI (t 1)), .int (nI (t 2)), .int (nI (g 0)), .int (nI (g 1)), .int (nI (g 2 / t 0)), .int (nI (g 2 % t 0)), .int (nI (g 3)), .int (nI (g 4)), .int (nI (g 5)), .ref (q 1), .ref (q 2), .ref (q 3), .ref (q 4)])), (q 1, .inl (k.1 0, 36, .inl (ta_e (tg_mud g)))), (q 2, .inl (k.1 0, 4, .inl (ta_e (tg_wal g)))), (q 3, .inl (k.1 0, 2, .inl (ta_e (tg_kne g)))), (q 4, .inl (k.1 2, 2, .inr (.inr (.inr (.inr (ta_dr (q 5) (q 8))))))), (q 5, .inr (1, [.ref (q 6), .ref (q 7), .int (nI (g 6))])), (q 6, .inl (k.1 0, 8, .inl (ta_e (X 0)))), (q 7, .inl (k.1 0, 8, .inl (ta_e (X 1)))), (q 8, .inr (1, [.ref (q 9), .ref (q 10), .int (nI (g 7))])), (q 9, .inl (k.1 0, 8, .inl (ta_e (X 2)))), (q 10, .inl (k.1 0, 8, .inl (ta_e (X 3))))] := hD
  obtain ⟨⟨a1, a2, a3, a4, -, -⟩, -, b2, -⟩ := hok
  obtain ⟨y1, x1, -⟩ := tg_div (by omega) b2
  obtain ⟨y, hy⟩ : ∃ y, y = g 2 / t 0 := ⟨_, rfl⟩
  obtain ⟨x, hx0⟩ : ∃ x, x = g 2 % t 0 := ⟨_, rfl⟩
  rw [← hy] at hP hD y1
  rw [← hx0] at hP hD x1
  refine lv_iload_n hx hb dX0_step_0 rfl (lv_at hl 1 rfl) ?_
  refine ta_iconst C 3 dX0_step_1 (by decide) ?_
  refine ta_iand C (a := dir) (b := 3) 2 (by omega) (by decide) dX0_step_2 ?_
  refine ta_nv (y := dir % 4) rfl ?_
  obtain ⟨w, hw⟩ : ∃ w, w = dir % 4 := ⟨_, rfl⟩
  refine ta_nv (y := w) hw.symm ?_
  rw [← hw] at ret
  rcases (show w = 0 ∨ w = 1 ∨ w = 2 ∨ w = 3 by omega) with rfl | rfl | rfl | rfl
  · refine lv_istore_n (lv' := [(2, .int (nI 0)), (0, .ref (q 0)), (1, .int (nI dir))]) hx hb dX0_step_3 rfl hl (by decide) rfl (fun ls hl => ?_)
    refine lv_aload_n hx hb dX0_step_4 rfl (lv_at hl 1 rfl) ?_
    refine ta_get C hP 0 inlX0 rfl rfl 5 (by decide) tw_105 rfl dX0_step_5 ?_
    refine va_getsN hx hb C.2.1.2.2.2.1.1 hS C.1.2.2.2.1 ((C.2.1.2.1.1 _ (List.mem_of_getElem? (i := 24) rfl)).use rfl) (fun _ h => h) dX0_step_8 ?_
    refine lv_iload_n hx hb dX0_step_11 rfl (lv_at hl 0 rfl) ?_
    refine ta_sti C C.2.1.2.2.2.1.2 hS (i := 0) (by omega) dX0_step_12 ?_
    refine ta_nv (y := 4294967295) (by decide) ?_
    refine ta_iadd C (a := y) (b := 4294967295) dX0_step_13 ?_
    rcases Nat.eq_zero_or_pos y with h0 | h0
    · refine ta_nv (y := 4294967295) (by omega) ?_
      refine lv_istore_n (lv' := [(3, .int (nI 4294967295)), (2, .int (nI 0)), (0, .ref (q 0)), (1, .int (nI dir))]) hx hb dX0_step_14 rfl hl (by decide) rfl (fun ls hl => ?_)
      refine lv_aload_n hx hb dX0_step_15 rfl (lv_at hl 2 rfl) ?_
      refine ta_get C hP 0 inlX0 rfl rfl 6 (by decide) tw_106 rfl dX0_step_16 ?_
      refine va_getsN hx hb C.2.1.2.2.2.2.1.1 hS C.1.2.2.2.1 ((C.2.1.2.1.1 _ (List.mem_of_getElem? (i := 39) rfl)).use rfl) (fun _ h => h) dX0_step_19 ?_
      refine lv_iload_n hx hb dX0_step_22 rfl (lv_at hl 1 rfl) ?_
      refine ta_sti C C.2.1.2.2.2.2.1.2 hS (i := 0) (by omega) dX0_step_23 ?_
      refine ta_nv (y := 0) (by decide) ?_
      refine ta_iadd C (a := x) (b := 0) dX0_step_24 ?_
      refine ta_nv (y := x) (Nat.add_zero _) ?_
      refine lv_istore (lv' := [(4, .int (nI x)), (3, .int (nI 4294967295)), (2, .int (nI 0)), (0, .ref (q 0)), (1, .int (nI dir))]) hx hb dX0_step_25 hl (by decide) rfl (fun ls hl => ?_)
      refine lv_iload_n hx hb dX0_step_27 rfl (lv_at hl 1 rfl) ?_
      refine lv_if_lt (tgt := 53) hx hb dX0_step_28 (by decide) (fun c1 => ?_) (fun c1 => ?_)
      · refine lv_aload_n hx hb dX0_step_53 rfl (lv_at hl 3 rfl) ?_
        refine ta_get C hP 0 inlX0 rfl rfl 11 (by decide) tw_79 rfl dX0_step_54 ?_
        refine lv_iload_n hx hb dX0_step_57 rfl (lv_at hl 2 rfl) ?_
        refine lv_dup2_11 hx hb dX0_step_58 rfl rfl ?_
        refine ta_iald C hP 2 rfl (i := 0) (by omega) dX0_step_59 ?_
        refine ta_iconst C 1 dX0_step_60 (by decide) ?_
        refine ta_iadd C (a := (tg_wal g) 0) (b := 1) dX0_step_61 ?_
        refine ta_iast C hP hD hS 2 rfl (i := 0) (v := ((tg_wal g) 0) + 1) (by omega) dX0_step_62 (fun H locs hP hD hS => ?_)
        have hP : va_P D vwCl [(q 0, .inr (0, [.int (nI (t 0)), .int (nI (t 1)), .int (nI (t 2)), .int (nI (g 0)), .int (nI (g 1)), .int (nI y), .int (nI x), .int (nI (g 3)), .int (nI (g 4)), .int (nI (g 5)), .ref (q 1), .ref (q 2), .ref (q 3), .ref (q 4)])), (q 1, .inl (k.1 0, 36, .inl (ta_e (tg_mud g)))), (q 2, .inl (k.1 0, 4, .inl (ta_e (ta_u (tg_wal g) 0 (((tg_wal g) 0) + 1))))), (q 3, .inl (k.1 0, 2, .inl (ta_e (tg_kne g)))), (q 4, .inl (k.1 2, 2, .inr (.inr (.inr (.inr (ta_dr (q 5) (q 8))))))), (q 5, .inr (1, [.ref (q 6), .ref (q 7), .int (nI (g 6))])), (q 6, .inl (k.1 0, 8, .inl (ta_e (X 0)))), (q 7, .inl (k.1 0, 8, .inl (ta_e (X 1)))), (q 8, .inr (1, [.ref (q 9), .ref (q 10), .int (nI (g 7))])), (q 9, .inl (k.1 0, 8, .inl (ta_e (X 2)))), (q 10, .inl (k.1 0, 8, .inl (ta_e (X 3))))] H := hP
        have hD : va_D A [(q 0, .inr (0, [.int (nI (t 0)), .int (nI (t 1)), .int (nI (t 2)), .int (nI (g 0)), .int (nI (g 1)), .int (nI y), .int (nI x), .int (nI (g 3)), .int (nI (g 4)), .int (nI (g 5)), .ref (q 1), .ref (q 2), .ref (q 3), .ref (q 4)])), (q 1, .inl (k.1 0, 36, .inl (ta_e (tg_mud g)))), (q 2, .inl (k.1 0, 4, .inl (ta_e (ta_u (tg_wal g) 0 (((tg_wal g) 0) + 1))))), (q 3, .inl (k.1 0, 2, .inl (ta_e (tg_kne g)))), (q 4, .inl (k.1 2, 2, .inr (.inr (.inr (.inr (ta_dr (q 5) (q 8))))))), (q 5, .inr (1, [.ref (q 6), .ref (q 7), .int (nI (g 6))])), (q 6, .inl (k.1 0, 8, .inl (ta_e (X 0)))), (q 7, .inl (k.1 0, 8, .inl (ta_e (X 1)))), (q 8, .inr (1, [.ref (q 9), .ref (q 10), .int (nI (g 7))])), (q 9, .inl (k.1 0, 8, .inl (ta_e (X 2)))), (q 10, .inl (k.1 0, 8, .inl (ta_e (X 3))))] := hD
        have e : tg_step t g 0 = tg_wall g 0 := by rw [tg_step0, ← hy, ← hx0]; first | exact if_pos (by omega) | exact if_neg (by omega)
        rw [e] at ret
        subst hy hx0
        exact ret () dX0_step_63 trivial (dy_to (t := t) (g := tg_wall g 0) ⟨rfl, rfl, rfl, rfl, rfl, rfl, rfl, rfl, rfl, rfl, rfl, rfl⟩ (fun j hj => (tg_wall_k (by omega)).symm) (fun j hj => by
            unfold tg_wall tg_wal ta_u
            by_cases h9 : j = 0
            · rw [if_pos h9, if_pos (by omega)]
            · rw [if_neg h9, if_neg (by omega)]) (fun j hj => (tg_wall_k (by omega)).symm) hP) (ta_De hD rfl) hS
      · exact absurd c1 (by decide)
    · refine ta_val (ta_wrap h0) ?_
      refine lv_istore_n (lv' := [(3, .int (nI (y - 1))), (2, .int (nI 0)), (0, .ref (q 0)), (1, .int (nI dir))]) hx hb dX0_step_14 rfl hl (by decide) rfl (fun ls hl => ?_)
      refine lv_aload_n hx hb dX0_step_15 rfl (lv_at hl 2 rfl) ?_
      refine ta_get C hP 0 inlX0 rfl rfl 6 (by decide) tw_106 rfl dX0_step_16 ?_
      refine va_getsN hx hb C.2.1.2.2.2.2.1.1 hS C.1.2.2.2.1 ((C.2.1.2.1.1 _ (List.mem_of_getElem? (i := 39) rfl)).use rfl) (fun _ h => h) dX0_step_19 ?_
      refine lv_iload_n hx hb dX0_step_22 rfl (lv_at hl 1 rfl) ?_
      refine ta_sti C C.2.1.2.2.2.2.1.2 hS (i := 0) (by omega) dX0_step_23 ?_
      refine ta_nv (y := 0) (by decide) ?_
      refine ta_iadd C (a := x) (b := 0) dX0_step_24 ?_
      refine ta_nv (y := x) (Nat.add_zero _) ?_
      refine lv_istore (lv' := [(4, .int (nI x)), (3, .int (nI (y - 1))), (2, .int (nI 0)), (0, .ref (q 0)), (1, .int (nI dir))]) hx hb dX0_step_25 hl (by decide) rfl (fun ls hl => ?_)
      refine lv_iload_n hx hb dX0_step_27 rfl (lv_at hl 1 rfl) ?_
      refine ta_ilt C (a := y - 1) (tgt := 53) (by omega) dX0_step_28 (by decide) ?_
      refine lv_iload_n hx hb dX0_step_31 rfl (lv_at hl 1 rfl) ?_
      refine lv_aload_n hx hb dX0_step_32 rfl (lv_at hl 3 rfl) ?_
      refine ta_get C hP 0 inlX0 rfl rfl 1 (by decide) tw_101 rfl dX0_step_33 ?_
      refine ta_cge C (a := y - 1) (b := t 1) (tgt := 53) (by omega) (by omega) dX0_step_36 (by decide) (fun c3 => ?_) (fun c3 => ?_)
      · exfalso; omega
      · refine lv_iload hx hb dX0_step_39 (lv_at hl 0 rfl) ?_
        refine ta_ilt C (a := x) (tgt := 53) (by omega) dX0_step_41 (by decide) ?_
        refine lv_iload hx hb dX0_step_44 (lv_at hl 0 rfl) ?_
        refine lv_aload_n hx hb dX0_step_46 rfl (lv_at hl 3 rfl) ?_
        refine ta_get C hP 0 inlX0 rfl rfl 0 (by decide) tw_100 rfl dX0_step_47 ?_
        refine ta_clt C (a := x) (b := t 0) (tgt := 64) (by omega) (by omega) dX0_step_50 (by decide) (fun c5 => ?_) (fun c5 => ?_)
        · refine lv_aload_n hx hb dX0_step_64 rfl (lv_at hl 3 rfl) ?_
          refine lv_iload_n hx hb dX0_step_65 rfl (lv_at hl 1 rfl) ?_
          refine ta_put C hP hD hS 0 inlX0 tyX0 tyX0_ok nmX0 rfl rfl 5 (by decide) tw_105 rfl rfl rfl (Nat.le_of_ble_eq_true rfl) dX0_step_66 (fun H locs hP hD hS => ?_)
          have hP : va_P D vwCl [(q 0, .inr (0, [.int (nI (t 0)), .int (nI (t 1)), .int (nI (t 2)), .int (nI (g 0)), .int (nI (g 1)), .int (nI (y - 1)), .int (nI x), .int (nI (g 3)), .int (nI (g 4)), .int (nI (g 5)), .ref (q 1), .ref (q 2), .ref (q 3), .ref (q 4)])), (q 1, .inl (k.1 0, 36, .inl (ta_e (tg_mud g)))), (q 2, .inl (k.1 0, 4, .inl (ta_e (tg_wal g)))), (q 3, .inl (k.1 0, 2, .inl (ta_e (tg_kne g)))), (q 4, .inl (k.1 2, 2, .inr (.inr (.inr (.inr (ta_dr (q 5) (q 8))))))), (q 5, .inr (1, [.ref (q 6), .ref (q 7), .int (nI (g 6))])), (q 6, .inl (k.1 0, 8, .inl (ta_e (X 0)))), (q 7, .inl (k.1 0, 8, .inl (ta_e (X 1)))), (q 8, .inr (1, [.ref (q 9), .ref (q 10), .int (nI (g 7))])), (q 9, .inl (k.1 0, 8, .inl (ta_e (X 2)))), (q 10, .inl (k.1 0, 8, .inl (ta_e (X 3))))] H := hP
          have hD : va_D A [(q 0, .inr (0, [.int (nI (t 0)), .int (nI (t 1)), .int (nI (t 2)), .int (nI (g 0)), .int (nI (g 1)), .int (nI (y - 1)), .int (nI x), .int (nI (g 3)), .int (nI (g 4)), .int (nI (g 5)), .ref (q 1), .ref (q 2), .ref (q 3), .ref (q 4)])), (q 1, .inl (k.1 0, 36, .inl (ta_e (tg_mud g)))), (q 2, .inl (k.1 0, 4, .inl (ta_e (tg_wal g)))), (q 3, .inl (k.1 0, 2, .inl (ta_e (tg_kne g)))), (q 4, .inl (k.1 2, 2, .inr (.inr (.inr (.inr (ta_dr (q 5) (q 8))))))), (q 5, .inr (1, [.ref (q 6), .ref (q 7), .int (nI (g 6))])), (q 6, .inl (k.1 0, 8, .inl (ta_e (X 0)))), (q 7, .inl (k.1 0, 8, .inl (ta_e (X 1)))), (q 8, .inr (1, [.ref (q 9), .ref (q 10), .int (nI (g 7))])), (q 9, .inl (k.1 0, 8, .inl (ta_e (X 2)))), (q 10, .inl (k.1 0, 8, .inl (ta_e (X 3))))] := hD
          refine lv_aload_n hx hb dX0_step_69 rfl (lv_at hl 3 rfl) ?_
          refine lv_iload hx hb dX0_step_70 (lv_at hl 0 rfl) ?_
          refine ta_put C hP hD hS 0 inlX0 tyX0 tyX0_ok nmX0 rfl rfl 6 (by decide) tw_106 rfl rfl rfl (Nat.le_of_ble_eq_true rfl) dX0_step_72 (fun H locs hP hD hS => ?_)
          have hP : va_P D vwCl [(q 0, .inr (0, [.int (nI (t 0)), .int (nI (t 1)), .int (nI (t 2)), .int (nI (g 0)), .int (nI (g 1)), .int (nI (y - 1)), .int (nI x), .int (nI (g 3)), .int (nI (g 4)), .int (nI (g 5)), .ref (q 1), .ref (q 2), .ref (q 3), .ref (q 4)])), (q 1, .inl (k.1 0, 36, .inl (ta_e (tg_mud g)))), (q 2, .inl (k.1 0, 4, .inl (ta_e (tg_wal g)))), (q 3, .inl (k.1 0, 2, .inl (ta_e (tg_kne g)))), (q 4, .inl (k.1 2, 2, .inr (.inr (.inr (.inr (ta_dr (q 5) (q 8))))))), (q 5, .inr (1, [.ref (q 6), .ref (q 7), .int (nI (g 6))])), (q 6, .inl (k.1 0, 8, .inl (ta_e (X 0)))), (q 7, .inl (k.1 0, 8, .inl (ta_e (X 1)))), (q 8, .inr (1, [.ref (q 9), .ref (q 10), .int (nI (g 7))])), (q 9, .inl (k.1 0, 8, .inl (ta_e (X 2)))), (q 10, .inl (k.1 0, 8, .inl (ta_e (X 3))))] H := hP
          have hD : va_D A [(q 0, .inr (0, [.int (nI (t 0)), .int (nI (t 1)), .int (nI (t 2)), .int (nI (g 0)), .int (nI (g 1)), .int (nI (y - 1)), .int (nI x), .int (nI (g 3)), .int (nI (g 4)), .int (nI (g 5)), .ref (q 1), .ref (q 2), .ref (q 3), .ref (q 4)])), (q 1, .inl (k.1 0, 36, .inl (ta_e (tg_mud g)))), (q 2, .inl (k.1 0, 4, .inl (ta_e (tg_wal g)))), (q 3, .inl (k.1 0, 2, .inl (ta_e (tg_kne g)))), (q 4, .inl (k.1 2, 2, .inr (.inr (.inr (.inr (ta_dr (q 5) (q 8))))))), (q 5, .inr (1, [.ref (q 6), .ref (q 7), .int (nI (g 6))])), (q 6, .inl (k.1 0, 8, .inl (ta_e (X 0)))), (q 7, .inl (k.1 0, 8, .inl (ta_e (X 1)))), (q 8, .inr (1, [.ref (q 9), .ref (q 10), .int (nI (g 7))])), (q 9, .inl (k.1 0, 8, .inl (ta_e (X 2)))), (q 10, .inl (k.1 0, 8, .inl (ta_e (X 3))))] := hD
          refine lv_aload_n hx hb dX0_step_75 rfl (lv_at hl 3 rfl) ?_
          refine ta_get C hP 0 inlX0 rfl rfl 10 (by decide) tw_78 rfl dX0_step_76 ?_
          refine lv_aload_n hx hb dX0_step_79 rfl (lv_at hl 3 rfl) ?_
          refine ta_callVi (As := []) (rest0 := [.ref (q 1)]) (Wr := [(q 1, .inl (k.1 0, 36, .inl (ta_e (tg_mud g)))), (q 2, .inl (k.1 0, 4, .inl (ta_e (tg_wal g)))), (q 3, .inl (k.1 0, 2, .inl (ta_e (tg_kne g)))), (q 4, .inl (k.1 2, 2, .inr (.inr (.inr (.inr (ta_dr (q 5) (q 8))))))), (q 5, .inr (1, [.ref (q 6), .ref (q 7), .int (nI (g 6))])), (q 6, .inl (k.1 0, 8, .inl (ta_e (X 0)))), (q 7, .inl (k.1 0, 8, .inl (ta_e (X 1)))), (q 8, .inr (1, [.ref (q 9), .ref (q 10), .int (nI (g 7))])), (q 9, .inl (k.1 0, 8, .inl (ta_e (X 2)))), (q 10, .inl (k.1 0, 8, .inl (ta_e (X 3))))]) C hP hD hS (c_X0_cell_r l D k (q 0) (q 1) (q 2) (q 3) (q 4) (t 0) (t 1) (t 2) (g 0) (g 1) (y - 1) x (g 3) (g 4) (g 5)) 0 rfl rfl rfl [0] [1, 2, 3, 4, 5, 6, 7, 8, 9, 10] rfl rfl (by decide) (by decide) (by decide) tw_464 tw_461 tw_26 tw_462 tw_463 ⟨by decide, by decide, rfl⟩ ⟨Nat.le_of_ble_eq_true rfl, Nat.le_of_ble_eq_true rfl⟩ ⟨Nat.zero_le _, Nat.zero_le _⟩ hl.1 rfl (Nat.le_of_ble_eq_true rfl) dX0_step_80 (fun r6 u7 H locs h8 hP hD hS => ?_)
          obtain rfl := h8
          have hP : va_P D vwCl [(q 1, .inl (k.1 0, 36, .inl (ta_e (tg_mud g)))), (q 2, .inl (k.1 0, 4, .inl (ta_e (tg_wal g)))), (q 3, .inl (k.1 0, 2, .inl (ta_e (tg_kne g)))), (q 4, .inl (k.1 2, 2, .inr (.inr (.inr (.inr (ta_dr (q 5) (q 8))))))), (q 5, .inr (1, [.ref (q 6), .ref (q 7), .int (nI (g 6))])), (q 6, .inl (k.1 0, 8, .inl (ta_e (X 0)))), (q 7, .inl (k.1 0, 8, .inl (ta_e (X 1)))), (q 8, .inr (1, [.ref (q 9), .ref (q 10), .int (nI (g 7))])), (q 9, .inl (k.1 0, 8, .inl (ta_e (X 2)))), (q 10, .inl (k.1 0, 8, .inl (ta_e (X 3)))), (q 0, .inr (0, [.int (nI (t 0)), .int (nI (t 1)), .int (nI (t 2)), .int (nI (g 0)), .int (nI (g 1)), .int (nI (y - 1)), .int (nI x), .int (nI (g 3)), .int (nI (g 4)), .int (nI (g 5)), .ref (q 1), .ref (q 2), .ref (q 3), .ref (q 4)]))] H := hP
          have hD : va_D A [(q 1, .inl (k.1 0, 36, .inl (ta_e (tg_mud g)))), (q 2, .inl (k.1 0, 4, .inl (ta_e (tg_wal g)))), (q 3, .inl (k.1 0, 2, .inl (ta_e (tg_kne g)))), (q 4, .inl (k.1 2, 2, .inr (.inr (.inr (.inr (ta_dr (q 5) (q 8))))))), (q 5, .inr (1, [.ref (q 6), .ref (q 7), .int (nI (g 6))])), (q 6, .inl (k.1 0, 8, .inl (ta_e (X 0)))), (q 7, .inl (k.1 0, 8, .inl (ta_e (X 1)))), (q 8, .inr (1, [.ref (q 9), .ref (q 10), .int (nI (g 7))])), (q 9, .inl (k.1 0, 8, .inl (ta_e (X 2)))), (q 10, .inl (k.1 0, 8, .inl (ta_e (X 3)))), (q 0, .inr (0, [.int (nI (t 0)), .int (nI (t 1)), .int (nI (t 2)), .int (nI (g 0)), .int (nI (g 1)), .int (nI (y - 1)), .int (nI x), .int (nI (g 3)), .int (nI (g 4)), .int (nI (g 5)), .ref (q 1), .ref (q 2), .ref (q 3), .ref (q 4)]))] := hD
          have hlt : (y - 1) * t 0 + x < 36 := by rw [Nat.mul_comm]; exact Nat.lt_of_lt_of_le (tg_lt (w := t 0) (h := t 1) (by omega) (by omega)) (tg_36 (by omega) (by omega))
          refine lv_dup2_11 hx hb dX0_step_83 rfl rfl ?_
          refine ta_iald C hP 0 rfl (i := (y - 1) * (t 0) + x) (by omega) dX0_step_84 ?_
          refine ta_iconst C 1 dX0_step_85 (by decide) ?_
          refine ta_iadd C (a := (tg_mud g) ((y - 1) * (t 0) + x)) (b := 1) dX0_step_86 ?_
          refine ta_iast C hP hD hS 0 rfl (i := (y - 1) * (t 0) + x) (v := ((tg_mud g) ((y - 1) * (t 0) + x)) + 1) (by omega) dX0_step_87 (fun H locs hP hD hS => ?_)
          have hP : va_P D vwCl [(q 1, .inl (k.1 0, 36, .inl (ta_e (ta_u (tg_mud g) ((y - 1) * (t 0) + x) (((tg_mud g) ((y - 1) * (t 0) + x)) + 1))))), (q 2, .inl (k.1 0, 4, .inl (ta_e (tg_wal g)))), (q 3, .inl (k.1 0, 2, .inl (ta_e (tg_kne g)))), (q 4, .inl (k.1 2, 2, .inr (.inr (.inr (.inr (ta_dr (q 5) (q 8))))))), (q 5, .inr (1, [.ref (q 6), .ref (q 7), .int (nI (g 6))])), (q 6, .inl (k.1 0, 8, .inl (ta_e (X 0)))), (q 7, .inl (k.1 0, 8, .inl (ta_e (X 1)))), (q 8, .inr (1, [.ref (q 9), .ref (q 10), .int (nI (g 7))])), (q 9, .inl (k.1 0, 8, .inl (ta_e (X 2)))), (q 10, .inl (k.1 0, 8, .inl (ta_e (X 3)))), (q 0, .inr (0, [.int (nI (t 0)), .int (nI (t 1)), .int (nI (t 2)), .int (nI (g 0)), .int (nI (g 1)), .int (nI (y - 1)), .int (nI x), .int (nI (g 3)), .int (nI (g 4)), .int (nI (g 5)), .ref (q 1), .ref (q 2), .ref (q 3), .ref (q 4)]))] H := hP
          have hD : va_D A [(q 1, .inl (k.1 0, 36, .inl (ta_e (ta_u (tg_mud g) ((y - 1) * (t 0) + x) (((tg_mud g) ((y - 1) * (t 0) + x)) + 1))))), (q 2, .inl (k.1 0, 4, .inl (ta_e (tg_wal g)))), (q 3, .inl (k.1 0, 2, .inl (ta_e (tg_kne g)))), (q 4, .inl (k.1 2, 2, .inr (.inr (.inr (.inr (ta_dr (q 5) (q 8))))))), (q 5, .inr (1, [.ref (q 6), .ref (q 7), .int (nI (g 6))])), (q 6, .inl (k.1 0, 8, .inl (ta_e (X 0)))), (q 7, .inl (k.1 0, 8, .inl (ta_e (X 1)))), (q 8, .inr (1, [.ref (q 9), .ref (q 10), .int (nI (g 7))])), (q 9, .inl (k.1 0, 8, .inl (ta_e (X 2)))), (q 10, .inl (k.1 0, 8, .inl (ta_e (X 3)))), (q 0, .inr (0, [.int (nI (t 0)), .int (nI (t 1)), .int (nI (t 2)), .int (nI (g 0)), .int (nI (g 1)), .int (nI (y - 1)), .int (nI x), .int (nI (g 3)), .int (nI (g 4)), .int (nI (g 5)), .ref (q 1), .ref (q 2), .ref (q 3), .ref (q 4)]))] := hD
          have e : tg_step t g 0 = tg_mv t g (y - 1) x := by rw [tg_step0, ← hy, ← hx0]; first | exact if_pos (by omega) | exact if_neg (by omega)
          rw [e] at ret
          obtain ⟨e5, e6⟩ := tg_rc (w := t 0) (y := y - 1) (x := x) (by omega)
          have ecm : (y - 1) * t 0 + x = t 0 * (y - 1) + x := by rw [Nat.mul_comm]
          have hP : va_P D vwCl [(q 0, .inr (0, [.int (nI (t 0)), .int (nI (t 1)), .int (nI (t 2)), .int (nI (g 0)), .int (nI (g 1)), .int (nI (y - 1)), .int (nI x), .int (nI (g 3)), .int (nI (g 4)), .int (nI (g 5)), .ref (q 1), .ref (q 2), .ref (q 3), .ref (q 4)])), (q 1, .inl (k.1 0, 36, .inl (ta_e (ta_u (tg_mud g) ((y - 1) * (t 0) + x) (((tg_mud g) ((y - 1) * (t 0) + x)) + 1))))), (q 2, .inl (k.1 0, 4, .inl (ta_e (tg_wal g)))), (q 3, .inl (k.1 0, 2, .inl (ta_e (tg_kne g)))), (q 4, .inl (k.1 2, 2, .inr (.inr (.inr (.inr (ta_dr (q 5) (q 8))))))), (q 5, .inr (1, [.ref (q 6), .ref (q 7), .int (nI (g 6))])), (q 6, .inl (k.1 0, 8, .inl (ta_e (X 0)))), (q 7, .inl (k.1 0, 8, .inl (ta_e (X 1)))), (q 8, .inr (1, [.ref (q 9), .ref (q 10), .int (nI (g 7))])), (q 9, .inl (k.1 0, 8, .inl (ta_e (X 2)))), (q 10, .inl (k.1 0, 8, .inl (ta_e (X 3))))] H := hP.sub [10, 0, 1, 2, 3, 4, 5, 6, 7, 8, 9] rfl
          have hD : va_D A [(q 0, .inr (0, [.int (nI (t 0)), .int (nI (t 1)), .int (nI (t 2)), .int (nI (g 0)), .int (nI (g 1)), .int (nI (y - 1)), .int (nI x), .int (nI (g 3)), .int (nI (g 4)), .int (nI (g 5)), .ref (q 1), .ref (q 2), .ref (q 3), .ref (q 4)])), (q 1, .inl (k.1 0, 36, .inl (ta_e (ta_u (tg_mud g) ((y - 1) * (t 0) + x) (((tg_mud g) ((y - 1) * (t 0) + x)) + 1))))), (q 2, .inl (k.1 0, 4, .inl (ta_e (tg_wal g)))), (q 3, .inl (k.1 0, 2, .inl (ta_e (tg_kne g)))), (q 4, .inl (k.1 2, 2, .inr (.inr (.inr (.inr (ta_dr (q 5) (q 8))))))), (q 5, .inr (1, [.ref (q 6), .ref (q 7), .int (nI (g 6))])), (q 6, .inl (k.1 0, 8, .inl (ta_e (X 0)))), (q 7, .inl (k.1 0, 8, .inl (ta_e (X 1)))), (q 8, .inr (1, [.ref (q 9), .ref (q 10), .int (nI (g 7))])), (q 9, .inl (k.1 0, 8, .inl (ta_e (X 2)))), (q 10, .inl (k.1 0, 8, .inl (ta_e (X 3))))] := hD.sub [10, 0, 1, 2, 3, 4, 5, 6, 7, 8, 9] (by decide) rfl
          rw [ecm] at hP hD
          exact ret () dX0_step_88 trivial (dy_to (t := t) (g := tg_mv t g (y - 1) x) ⟨rfl, rfl, rfl, (tg_mv_k (by omega) (by omega)).symm, (tg_mv_k (by omega) (by omega)).symm, (by rw [tg_mv_2]; exact e5.symm), (by rw [tg_mv_2]; exact e6.symm), (tg_mv_k (by omega) (by omega)).symm, (tg_mv_k (by omega) (by omega)).symm, (tg_mv_k (by omega) (by omega)).symm, (tg_mv_k (by omega) (by omega)).symm, (tg_mv_k (by omega) (by omega)).symm⟩ (fun j hj => tg_mv_m.symm) (fun j hj => (tg_mv_k (by omega) (by omega)).symm) (fun j hj => (tg_mv_k (by omega) (by omega)).symm) hP) (ta_De hD rfl) hS
        · exfalso; omega
  · refine lv_istore_n (lv' := [(2, .int (nI 1)), (0, .ref (q 0)), (1, .int (nI dir))]) hx hb dX0_step_3 rfl hl (by decide) rfl (fun ls hl => ?_)
    refine lv_aload_n hx hb dX0_step_4 rfl (lv_at hl 1 rfl) ?_
    refine ta_get C hP 0 inlX0 rfl rfl 5 (by decide) tw_105 rfl dX0_step_5 ?_
    refine va_getsN hx hb C.2.1.2.2.2.1.1 hS C.1.2.2.2.1 ((C.2.1.2.1.1 _ (List.mem_of_getElem? (i := 24) rfl)).use rfl) (fun _ h => h) dX0_step_8 ?_
    refine lv_iload_n hx hb dX0_step_11 rfl (lv_at hl 0 rfl) ?_
    refine ta_sti C C.2.1.2.2.2.1.2 hS (i := 1) (by omega) dX0_step_12 ?_
    refine ta_nv (y := 0) (by decide) ?_
    refine ta_iadd C (a := y) (b := 0) dX0_step_13 ?_
    refine ta_nv (y := y) (Nat.add_zero _) ?_
    refine lv_istore_n (lv' := [(3, .int (nI y)), (2, .int (nI 1)), (0, .ref (q 0)), (1, .int (nI dir))]) hx hb dX0_step_14 rfl hl (by decide) rfl (fun ls hl => ?_)
    refine lv_aload_n hx hb dX0_step_15 rfl (lv_at hl 2 rfl) ?_
    refine ta_get C hP 0 inlX0 rfl rfl 6 (by decide) tw_106 rfl dX0_step_16 ?_
    refine va_getsN hx hb C.2.1.2.2.2.2.1.1 hS C.1.2.2.2.1 ((C.2.1.2.1.1 _ (List.mem_of_getElem? (i := 39) rfl)).use rfl) (fun _ h => h) dX0_step_19 ?_
    refine lv_iload_n hx hb dX0_step_22 rfl (lv_at hl 1 rfl) ?_
    refine ta_sti C C.2.1.2.2.2.2.1.2 hS (i := 1) (by omega) dX0_step_23 ?_
    refine ta_nv (y := 1) (by decide) ?_
    refine ta_iadd C (a := x) (b := 1) dX0_step_24 ?_
    refine lv_istore (lv' := [(4, .int (nI (x + 1))), (3, .int (nI y)), (2, .int (nI 1)), (0, .ref (q 0)), (1, .int (nI dir))]) hx hb dX0_step_25 hl (by decide) rfl (fun ls hl => ?_)
    refine lv_iload_n hx hb dX0_step_27 rfl (lv_at hl 1 rfl) ?_
    refine ta_ilt C (a := y) (tgt := 53) (by omega) dX0_step_28 (by decide) ?_
    refine lv_iload_n hx hb dX0_step_31 rfl (lv_at hl 1 rfl) ?_
    refine lv_aload_n hx hb dX0_step_32 rfl (lv_at hl 3 rfl) ?_
    refine ta_get C hP 0 inlX0 rfl rfl 1 (by decide) tw_101 rfl dX0_step_33 ?_
    refine ta_cge C (a := y) (b := t 1) (tgt := 53) (by omega) (by omega) dX0_step_36 (by decide) (fun c10 => ?_) (fun c10 => ?_)
    · exfalso; omega
    · refine lv_iload hx hb dX0_step_39 (lv_at hl 0 rfl) ?_
      refine ta_ilt C (a := x + 1) (tgt := 53) (by omega) dX0_step_41 (by decide) ?_
      refine lv_iload hx hb dX0_step_44 (lv_at hl 0 rfl) ?_
      refine lv_aload_n hx hb dX0_step_46 rfl (lv_at hl 3 rfl) ?_
      refine ta_get C hP 0 inlX0 rfl rfl 0 (by decide) tw_100 rfl dX0_step_47 ?_
      refine ta_clt C (a := x + 1) (b := t 0) (tgt := 64) (by omega) (by omega) dX0_step_50 (by decide) (fun c12 => ?_) (fun c12 => ?_)
      · refine lv_aload_n hx hb dX0_step_64 rfl (lv_at hl 3 rfl) ?_
        refine lv_iload_n hx hb dX0_step_65 rfl (lv_at hl 1 rfl) ?_
        refine ta_put C hP hD hS 0 inlX0 tyX0 tyX0_ok nmX0 rfl rfl 5 (by decide) tw_105 rfl rfl rfl (Nat.le_of_ble_eq_true rfl) dX0_step_66 (fun H locs hP hD hS => ?_)
        have hP : va_P D vwCl [(q 0, .inr (0, [.int (nI (t 0)), .int (nI (t 1)), .int (nI (t 2)), .int (nI (g 0)), .int (nI (g 1)), .int (nI y), .int (nI x), .int (nI (g 3)), .int (nI (g 4)), .int (nI (g 5)), .ref (q 1), .ref (q 2), .ref (q 3), .ref (q 4)])), (q 1, .inl (k.1 0, 36, .inl (ta_e (tg_mud g)))), (q 2, .inl (k.1 0, 4, .inl (ta_e (tg_wal g)))), (q 3, .inl (k.1 0, 2, .inl (ta_e (tg_kne g)))), (q 4, .inl (k.1 2, 2, .inr (.inr (.inr (.inr (ta_dr (q 5) (q 8))))))), (q 5, .inr (1, [.ref (q 6), .ref (q 7), .int (nI (g 6))])), (q 6, .inl (k.1 0, 8, .inl (ta_e (X 0)))), (q 7, .inl (k.1 0, 8, .inl (ta_e (X 1)))), (q 8, .inr (1, [.ref (q 9), .ref (q 10), .int (nI (g 7))])), (q 9, .inl (k.1 0, 8, .inl (ta_e (X 2)))), (q 10, .inl (k.1 0, 8, .inl (ta_e (X 3))))] H := hP
        have hD : va_D A [(q 0, .inr (0, [.int (nI (t 0)), .int (nI (t 1)), .int (nI (t 2)), .int (nI (g 0)), .int (nI (g 1)), .int (nI y), .int (nI x), .int (nI (g 3)), .int (nI (g 4)), .int (nI (g 5)), .ref (q 1), .ref (q 2), .ref (q 3), .ref (q 4)])), (q 1, .inl (k.1 0, 36, .inl (ta_e (tg_mud g)))), (q 2, .inl (k.1 0, 4, .inl (ta_e (tg_wal g)))), (q 3, .inl (k.1 0, 2, .inl (ta_e (tg_kne g)))), (q 4, .inl (k.1 2, 2, .inr (.inr (.inr (.inr (ta_dr (q 5) (q 8))))))), (q 5, .inr (1, [.ref (q 6), .ref (q 7), .int (nI (g 6))])), (q 6, .inl (k.1 0, 8, .inl (ta_e (X 0)))), (q 7, .inl (k.1 0, 8, .inl (ta_e (X 1)))), (q 8, .inr (1, [.ref (q 9), .ref (q 10), .int (nI (g 7))])), (q 9, .inl (k.1 0, 8, .inl (ta_e (X 2)))), (q 10, .inl (k.1 0, 8, .inl (ta_e (X 3))))] := hD
        refine lv_aload_n hx hb dX0_step_69 rfl (lv_at hl 3 rfl) ?_
        refine lv_iload hx hb dX0_step_70 (lv_at hl 0 rfl) ?_
        refine ta_put C hP hD hS 0 inlX0 tyX0 tyX0_ok nmX0 rfl rfl 6 (by decide) tw_106 rfl rfl rfl (Nat.le_of_ble_eq_true rfl) dX0_step_72 (fun H locs hP hD hS => ?_)
        have hP : va_P D vwCl [(q 0, .inr (0, [.int (nI (t 0)), .int (nI (t 1)), .int (nI (t 2)), .int (nI (g 0)), .int (nI (g 1)), .int (nI y), .int (nI (x + 1)), .int (nI (g 3)), .int (nI (g 4)), .int (nI (g 5)), .ref (q 1), .ref (q 2), .ref (q 3), .ref (q 4)])), (q 1, .inl (k.1 0, 36, .inl (ta_e (tg_mud g)))), (q 2, .inl (k.1 0, 4, .inl (ta_e (tg_wal g)))), (q 3, .inl (k.1 0, 2, .inl (ta_e (tg_kne g)))), (q 4, .inl (k.1 2, 2, .inr (.inr (.inr (.inr (ta_dr (q 5) (q 8))))))), (q 5, .inr (1, [.ref (q 6), .ref (q 7), .int (nI (g 6))])), (q 6, .inl (k.1 0, 8, .inl (ta_e (X 0)))), (q 7, .inl (k.1 0, 8, .inl (ta_e (X 1)))), (q 8, .inr (1, [.ref (q 9), .ref (q 10), .int (nI (g 7))])), (q 9, .inl (k.1 0, 8, .inl (ta_e (X 2)))), (q 10, .inl (k.1 0, 8, .inl (ta_e (X 3))))] H := hP
        have hD : va_D A [(q 0, .inr (0, [.int (nI (t 0)), .int (nI (t 1)), .int (nI (t 2)), .int (nI (g 0)), .int (nI (g 1)), .int (nI y), .int (nI (x + 1)), .int (nI (g 3)), .int (nI (g 4)), .int (nI (g 5)), .ref (q 1), .ref (q 2), .ref (q 3), .ref (q 4)])), (q 1, .inl (k.1 0, 36, .inl (ta_e (tg_mud g)))), (q 2, .inl (k.1 0, 4, .inl (ta_e (tg_wal g)))), (q 3, .inl (k.1 0, 2, .inl (ta_e (tg_kne g)))), (q 4, .inl (k.1 2, 2, .inr (.inr (.inr (.inr (ta_dr (q 5) (q 8))))))), (q 5, .inr (1, [.ref (q 6), .ref (q 7), .int (nI (g 6))])), (q 6, .inl (k.1 0, 8, .inl (ta_e (X 0)))), (q 7, .inl (k.1 0, 8, .inl (ta_e (X 1)))), (q 8, .inr (1, [.ref (q 9), .ref (q 10), .int (nI (g 7))])), (q 9, .inl (k.1 0, 8, .inl (ta_e (X 2)))), (q 10, .inl (k.1 0, 8, .inl (ta_e (X 3))))] := hD
        refine lv_aload_n hx hb dX0_step_75 rfl (lv_at hl 3 rfl) ?_
        refine ta_get C hP 0 inlX0 rfl rfl 10 (by decide) tw_78 rfl dX0_step_76 ?_
        refine lv_aload_n hx hb dX0_step_79 rfl (lv_at hl 3 rfl) ?_
        refine ta_callVi (As := []) (rest0 := [.ref (q 1)]) (Wr := [(q 1, .inl (k.1 0, 36, .inl (ta_e (tg_mud g)))), (q 2, .inl (k.1 0, 4, .inl (ta_e (tg_wal g)))), (q 3, .inl (k.1 0, 2, .inl (ta_e (tg_kne g)))), (q 4, .inl (k.1 2, 2, .inr (.inr (.inr (.inr (ta_dr (q 5) (q 8))))))), (q 5, .inr (1, [.ref (q 6), .ref (q 7), .int (nI (g 6))])), (q 6, .inl (k.1 0, 8, .inl (ta_e (X 0)))), (q 7, .inl (k.1 0, 8, .inl (ta_e (X 1)))), (q 8, .inr (1, [.ref (q 9), .ref (q 10), .int (nI (g 7))])), (q 9, .inl (k.1 0, 8, .inl (ta_e (X 2)))), (q 10, .inl (k.1 0, 8, .inl (ta_e (X 3))))]) C hP hD hS (c_X0_cell_r l D k (q 0) (q 1) (q 2) (q 3) (q 4) (t 0) (t 1) (t 2) (g 0) (g 1) y (x + 1) (g 3) (g 4) (g 5)) 0 rfl rfl rfl [0] [1, 2, 3, 4, 5, 6, 7, 8, 9, 10] rfl rfl (by decide) (by decide) (by decide) tw_464 tw_461 tw_26 tw_462 tw_463 ⟨by decide, by decide, rfl⟩ ⟨Nat.le_of_ble_eq_true rfl, Nat.le_of_ble_eq_true rfl⟩ ⟨Nat.zero_le _, Nat.zero_le _⟩ hl.1 rfl (Nat.le_of_ble_eq_true rfl) dX0_step_80 (fun r13 u14 H locs h15 hP hD hS => ?_)
        obtain rfl := h15
        have hP : va_P D vwCl [(q 1, .inl (k.1 0, 36, .inl (ta_e (tg_mud g)))), (q 2, .inl (k.1 0, 4, .inl (ta_e (tg_wal g)))), (q 3, .inl (k.1 0, 2, .inl (ta_e (tg_kne g)))), (q 4, .inl (k.1 2, 2, .inr (.inr (.inr (.inr (ta_dr (q 5) (q 8))))))), (q 5, .inr (1, [.ref (q 6), .ref (q 7), .int (nI (g 6))])), (q 6, .inl (k.1 0, 8, .inl (ta_e (X 0)))), (q 7, .inl (k.1 0, 8, .inl (ta_e (X 1)))), (q 8, .inr (1, [.ref (q 9), .ref (q 10), .int (nI (g 7))])), (q 9, .inl (k.1 0, 8, .inl (ta_e (X 2)))), (q 10, .inl (k.1 0, 8, .inl (ta_e (X 3)))), (q 0, .inr (0, [.int (nI (t 0)), .int (nI (t 1)), .int (nI (t 2)), .int (nI (g 0)), .int (nI (g 1)), .int (nI y), .int (nI (x + 1)), .int (nI (g 3)), .int (nI (g 4)), .int (nI (g 5)), .ref (q 1), .ref (q 2), .ref (q 3), .ref (q 4)]))] H := hP
        have hD : va_D A [(q 1, .inl (k.1 0, 36, .inl (ta_e (tg_mud g)))), (q 2, .inl (k.1 0, 4, .inl (ta_e (tg_wal g)))), (q 3, .inl (k.1 0, 2, .inl (ta_e (tg_kne g)))), (q 4, .inl (k.1 2, 2, .inr (.inr (.inr (.inr (ta_dr (q 5) (q 8))))))), (q 5, .inr (1, [.ref (q 6), .ref (q 7), .int (nI (g 6))])), (q 6, .inl (k.1 0, 8, .inl (ta_e (X 0)))), (q 7, .inl (k.1 0, 8, .inl (ta_e (X 1)))), (q 8, .inr (1, [.ref (q 9), .ref (q 10), .int (nI (g 7))])), (q 9, .inl (k.1 0, 8, .inl (ta_e (X 2)))), (q 10, .inl (k.1 0, 8, .inl (ta_e (X 3)))), (q 0, .inr (0, [.int (nI (t 0)), .int (nI (t 1)), .int (nI (t 2)), .int (nI (g 0)), .int (nI (g 1)), .int (nI y), .int (nI (x + 1)), .int (nI (g 3)), .int (nI (g 4)), .int (nI (g 5)), .ref (q 1), .ref (q 2), .ref (q 3), .ref (q 4)]))] := hD
        have hlt : y * t 0 + (x + 1) < 36 := by rw [Nat.mul_comm]; exact Nat.lt_of_lt_of_le (tg_lt (w := t 0) (h := t 1) (by omega) (by omega)) (tg_36 (by omega) (by omega))
        refine lv_dup2_11 hx hb dX0_step_83 rfl rfl ?_
        refine ta_iald C hP 0 rfl (i := y * (t 0) + (x + 1)) (by omega) dX0_step_84 ?_
        refine ta_iconst C 1 dX0_step_85 (by decide) ?_
        refine ta_iadd C (a := (tg_mud g) (y * (t 0) + (x + 1))) (b := 1) dX0_step_86 ?_
        refine ta_iast C hP hD hS 0 rfl (i := y * (t 0) + (x + 1)) (v := ((tg_mud g) (y * (t 0) + (x + 1))) + 1) (by omega) dX0_step_87 (fun H locs hP hD hS => ?_)
        have hP : va_P D vwCl [(q 1, .inl (k.1 0, 36, .inl (ta_e (ta_u (tg_mud g) (y * (t 0) + (x + 1)) (((tg_mud g) (y * (t 0) + (x + 1))) + 1))))), (q 2, .inl (k.1 0, 4, .inl (ta_e (tg_wal g)))), (q 3, .inl (k.1 0, 2, .inl (ta_e (tg_kne g)))), (q 4, .inl (k.1 2, 2, .inr (.inr (.inr (.inr (ta_dr (q 5) (q 8))))))), (q 5, .inr (1, [.ref (q 6), .ref (q 7), .int (nI (g 6))])), (q 6, .inl (k.1 0, 8, .inl (ta_e (X 0)))), (q 7, .inl (k.1 0, 8, .inl (ta_e (X 1)))), (q 8, .inr (1, [.ref (q 9), .ref (q 10), .int (nI (g 7))])), (q 9, .inl (k.1 0, 8, .inl (ta_e (X 2)))), (q 10, .inl (k.1 0, 8, .inl (ta_e (X 3)))), (q 0, .inr (0, [.int (nI (t 0)), .int (nI (t 1)), .int (nI (t 2)), .int (nI (g 0)), .int (nI (g 1)), .int (nI y), .int (nI (x + 1)), .int (nI (g 3)), .int (nI (g 4)), .int (nI (g 5)), .ref (q 1), .ref (q 2), .ref (q 3), .ref (q 4)]))] H := hP
        have hD : va_D A [(q 1, .inl (k.1 0, 36, .inl (ta_e (ta_u (tg_mud g) (y * (t 0) + (x + 1)) (((tg_mud g) (y * (t 0) + (x + 1))) + 1))))), (q 2, .inl (k.1 0, 4, .inl (ta_e (tg_wal g)))), (q 3, .inl (k.1 0, 2, .inl (ta_e (tg_kne g)))), (q 4, .inl (k.1 2, 2, .inr (.inr (.inr (.inr (ta_dr (q 5) (q 8))))))), (q 5, .inr (1, [.ref (q 6), .ref (q 7), .int (nI (g 6))])), (q 6, .inl (k.1 0, 8, .inl (ta_e (X 0)))), (q 7, .inl (k.1 0, 8, .inl (ta_e (X 1)))), (q 8, .inr (1, [.ref (q 9), .ref (q 10), .int (nI (g 7))])), (q 9, .inl (k.1 0, 8, .inl (ta_e (X 2)))), (q 10, .inl (k.1 0, 8, .inl (ta_e (X 3)))), (q 0, .inr (0, [.int (nI (t 0)), .int (nI (t 1)), .int (nI (t 2)), .int (nI (g 0)), .int (nI (g 1)), .int (nI y), .int (nI (x + 1)), .int (nI (g 3)), .int (nI (g 4)), .int (nI (g 5)), .ref (q 1), .ref (q 2), .ref (q 3), .ref (q 4)]))] := hD
        have e : tg_step t g 1 = tg_mv t g y (x + 1) := by rw [tg_step1, ← hy, ← hx0]; first | exact if_pos (by omega) | exact if_neg (by omega)
        rw [e] at ret
        obtain ⟨e5, e6⟩ := tg_rc (w := t 0) (y := y) (x := x + 1) (by omega)
        have ecm : y * t 0 + (x + 1) = t 0 * y + (x + 1) := by rw [Nat.mul_comm]
        have hP : va_P D vwCl [(q 0, .inr (0, [.int (nI (t 0)), .int (nI (t 1)), .int (nI (t 2)), .int (nI (g 0)), .int (nI (g 1)), .int (nI y), .int (nI (x + 1)), .int (nI (g 3)), .int (nI (g 4)), .int (nI (g 5)), .ref (q 1), .ref (q 2), .ref (q 3), .ref (q 4)])), (q 1, .inl (k.1 0, 36, .inl (ta_e (ta_u (tg_mud g) (y * (t 0) + (x + 1)) (((tg_mud g) (y * (t 0) + (x + 1))) + 1))))), (q 2, .inl (k.1 0, 4, .inl (ta_e (tg_wal g)))), (q 3, .inl (k.1 0, 2, .inl (ta_e (tg_kne g)))), (q 4, .inl (k.1 2, 2, .inr (.inr (.inr (.inr (ta_dr (q 5) (q 8))))))), (q 5, .inr (1, [.ref (q 6), .ref (q 7), .int (nI (g 6))])), (q 6, .inl (k.1 0, 8, .inl (ta_e (X 0)))), (q 7, .inl (k.1 0, 8, .inl (ta_e (X 1)))), (q 8, .inr (1, [.ref (q 9), .ref (q 10), .int (nI (g 7))])), (q 9, .inl (k.1 0, 8, .inl (ta_e (X 2)))), (q 10, .inl (k.1 0, 8, .inl (ta_e (X 3))))] H := hP.sub [10, 0, 1, 2, 3, 4, 5, 6, 7, 8, 9] rfl
        have hD : va_D A [(q 0, .inr (0, [.int (nI (t 0)), .int (nI (t 1)), .int (nI (t 2)), .int (nI (g 0)), .int (nI (g 1)), .int (nI y), .int (nI (x + 1)), .int (nI (g 3)), .int (nI (g 4)), .int (nI (g 5)), .ref (q 1), .ref (q 2), .ref (q 3), .ref (q 4)])), (q 1, .inl (k.1 0, 36, .inl (ta_e (ta_u (tg_mud g) (y * (t 0) + (x + 1)) (((tg_mud g) (y * (t 0) + (x + 1))) + 1))))), (q 2, .inl (k.1 0, 4, .inl (ta_e (tg_wal g)))), (q 3, .inl (k.1 0, 2, .inl (ta_e (tg_kne g)))), (q 4, .inl (k.1 2, 2, .inr (.inr (.inr (.inr (ta_dr (q 5) (q 8))))))), (q 5, .inr (1, [.ref (q 6), .ref (q 7), .int (nI (g 6))])), (q 6, .inl (k.1 0, 8, .inl (ta_e (X 0)))), (q 7, .inl (k.1 0, 8, .inl (ta_e (X 1)))), (q 8, .inr (1, [.ref (q 9), .ref (q 10), .int (nI (g 7))])), (q 9, .inl (k.1 0, 8, .inl (ta_e (X 2)))), (q 10, .inl (k.1 0, 8, .inl (ta_e (X 3))))] := hD.sub [10, 0, 1, 2, 3, 4, 5, 6, 7, 8, 9] (by decide) rfl
        rw [ecm] at hP hD
        exact ret () dX0_step_88 trivial (dy_to (t := t) (g := tg_mv t g y (x + 1)) ⟨rfl, rfl, rfl, (tg_mv_k (by omega) (by omega)).symm, (tg_mv_k (by omega) (by omega)).symm, (by rw [tg_mv_2]; exact e5.symm), (by rw [tg_mv_2]; exact e6.symm), (tg_mv_k (by omega) (by omega)).symm, (tg_mv_k (by omega) (by omega)).symm, (tg_mv_k (by omega) (by omega)).symm, (tg_mv_k (by omega) (by omega)).symm, (tg_mv_k (by omega) (by omega)).symm⟩ (fun j hj => tg_mv_m.symm) (fun j hj => (tg_mv_k (by omega) (by omega)).symm) (fun j hj => (tg_mv_k (by omega) (by omega)).symm) hP) (ta_De hD rfl) hS
      · refine lv_aload_n hx hb dX0_step_53 rfl (lv_at hl 3 rfl) ?_
        refine ta_get C hP 0 inlX0 rfl rfl 11 (by decide) tw_79 rfl dX0_step_54 ?_
        refine lv_iload_n hx hb dX0_step_57 rfl (lv_at hl 2 rfl) ?_
        refine lv_dup2_11 hx hb dX0_step_58 rfl rfl ?_
        refine ta_iald C hP 2 rfl (i := 1) (by omega) dX0_step_59 ?_
        refine ta_iconst C 1 dX0_step_60 (by decide) ?_
        refine ta_iadd C (a := (tg_wal g) 1) (b := 1) dX0_step_61 ?_
        refine ta_iast C hP hD hS 2 rfl (i := 1) (v := ((tg_wal g) 1) + 1) (by omega) dX0_step_62 (fun H locs hP hD hS => ?_)
        have hP : va_P D vwCl [(q 0, .inr (0, [.int (nI (t 0)), .int (nI (t 1)), .int (nI (t 2)), .int (nI (g 0)), .int (nI (g 1)), .int (nI y), .int (nI x), .int (nI (g 3)), .int (nI (g 4)), .int (nI (g 5)), .ref (q 1), .ref (q 2), .ref (q 3), .ref (q 4)])), (q 1, .inl (k.1 0, 36, .inl (ta_e (tg_mud g)))), (q 2, .inl (k.1 0, 4, .inl (ta_e (ta_u (tg_wal g) 1 (((tg_wal g) 1) + 1))))), (q 3, .inl (k.1 0, 2, .inl (ta_e (tg_kne g)))), (q 4, .inl (k.1 2, 2, .inr (.inr (.inr (.inr (ta_dr (q 5) (q 8))))))), (q 5, .inr (1, [.ref (q 6), .ref (q 7), .int (nI (g 6))])), (q 6, .inl (k.1 0, 8, .inl (ta_e (X 0)))), (q 7, .inl (k.1 0, 8, .inl (ta_e (X 1)))), (q 8, .inr (1, [.ref (q 9), .ref (q 10), .int (nI (g 7))])), (q 9, .inl (k.1 0, 8, .inl (ta_e (X 2)))), (q 10, .inl (k.1 0, 8, .inl (ta_e (X 3))))] H := hP
        have hD : va_D A [(q 0, .inr (0, [.int (nI (t 0)), .int (nI (t 1)), .int (nI (t 2)), .int (nI (g 0)), .int (nI (g 1)), .int (nI y), .int (nI x), .int (nI (g 3)), .int (nI (g 4)), .int (nI (g 5)), .ref (q 1), .ref (q 2), .ref (q 3), .ref (q 4)])), (q 1, .inl (k.1 0, 36, .inl (ta_e (tg_mud g)))), (q 2, .inl (k.1 0, 4, .inl (ta_e (ta_u (tg_wal g) 1 (((tg_wal g) 1) + 1))))), (q 3, .inl (k.1 0, 2, .inl (ta_e (tg_kne g)))), (q 4, .inl (k.1 2, 2, .inr (.inr (.inr (.inr (ta_dr (q 5) (q 8))))))), (q 5, .inr (1, [.ref (q 6), .ref (q 7), .int (nI (g 6))])), (q 6, .inl (k.1 0, 8, .inl (ta_e (X 0)))), (q 7, .inl (k.1 0, 8, .inl (ta_e (X 1)))), (q 8, .inr (1, [.ref (q 9), .ref (q 10), .int (nI (g 7))])), (q 9, .inl (k.1 0, 8, .inl (ta_e (X 2)))), (q 10, .inl (k.1 0, 8, .inl (ta_e (X 3))))] := hD
        have e : tg_step t g 1 = tg_wall g 1 := by rw [tg_step1, ← hy, ← hx0]; first | exact if_pos (by omega) | exact if_neg (by omega)
        rw [e] at ret
        subst hy hx0
        exact ret () dX0_step_63 trivial (dy_to (t := t) (g := tg_wall g 1) ⟨rfl, rfl, rfl, rfl, rfl, rfl, rfl, rfl, rfl, rfl, rfl, rfl⟩ (fun j hj => (tg_wall_k (by omega)).symm) (fun j hj => by
            unfold tg_wall tg_wal ta_u
            by_cases h9 : j = 1
            · rw [if_pos h9, if_pos (by omega)]
            · rw [if_neg h9, if_neg (by omega)]) (fun j hj => (tg_wall_k (by omega)).symm) hP) (ta_De hD rfl) hS
  · refine lv_istore_n (lv' := [(2, .int (nI 2)), (0, .ref (q 0)), (1, .int (nI dir))]) hx hb dX0_step_3 rfl hl (by decide) rfl (fun ls hl => ?_)
    refine lv_aload_n hx hb dX0_step_4 rfl (lv_at hl 1 rfl) ?_
    refine ta_get C hP 0 inlX0 rfl rfl 5 (by decide) tw_105 rfl dX0_step_5 ?_
    refine va_getsN hx hb C.2.1.2.2.2.1.1 hS C.1.2.2.2.1 ((C.2.1.2.1.1 _ (List.mem_of_getElem? (i := 24) rfl)).use rfl) (fun _ h => h) dX0_step_8 ?_
    refine lv_iload_n hx hb dX0_step_11 rfl (lv_at hl 0 rfl) ?_
    refine ta_sti C C.2.1.2.2.2.1.2 hS (i := 2) (by omega) dX0_step_12 ?_
    refine ta_nv (y := 1) (by decide) ?_
    refine ta_iadd C (a := y) (b := 1) dX0_step_13 ?_
    refine lv_istore_n (lv' := [(3, .int (nI (y + 1))), (2, .int (nI 2)), (0, .ref (q 0)), (1, .int (nI dir))]) hx hb dX0_step_14 rfl hl (by decide) rfl (fun ls hl => ?_)
    refine lv_aload_n hx hb dX0_step_15 rfl (lv_at hl 2 rfl) ?_
    refine ta_get C hP 0 inlX0 rfl rfl 6 (by decide) tw_106 rfl dX0_step_16 ?_
    refine va_getsN hx hb C.2.1.2.2.2.2.1.1 hS C.1.2.2.2.1 ((C.2.1.2.1.1 _ (List.mem_of_getElem? (i := 39) rfl)).use rfl) (fun _ h => h) dX0_step_19 ?_
    refine lv_iload_n hx hb dX0_step_22 rfl (lv_at hl 1 rfl) ?_
    refine ta_sti C C.2.1.2.2.2.2.1.2 hS (i := 2) (by omega) dX0_step_23 ?_
    refine ta_nv (y := 0) (by decide) ?_
    refine ta_iadd C (a := x) (b := 0) dX0_step_24 ?_
    refine ta_nv (y := x) (Nat.add_zero _) ?_
    refine lv_istore (lv' := [(4, .int (nI x)), (3, .int (nI (y + 1))), (2, .int (nI 2)), (0, .ref (q 0)), (1, .int (nI dir))]) hx hb dX0_step_25 hl (by decide) rfl (fun ls hl => ?_)
    refine lv_iload_n hx hb dX0_step_27 rfl (lv_at hl 1 rfl) ?_
    refine ta_ilt C (a := y + 1) (tgt := 53) (by omega) dX0_step_28 (by decide) ?_
    refine lv_iload_n hx hb dX0_step_31 rfl (lv_at hl 1 rfl) ?_
    refine lv_aload_n hx hb dX0_step_32 rfl (lv_at hl 3 rfl) ?_
    refine ta_get C hP 0 inlX0 rfl rfl 1 (by decide) tw_101 rfl dX0_step_33 ?_
    refine ta_cge C (a := y + 1) (b := t 1) (tgt := 53) (by omega) (by omega) dX0_step_36 (by decide) (fun c17 => ?_) (fun c17 => ?_)
    · refine lv_aload_n hx hb dX0_step_53 rfl (lv_at hl 3 rfl) ?_
      refine ta_get C hP 0 inlX0 rfl rfl 11 (by decide) tw_79 rfl dX0_step_54 ?_
      refine lv_iload_n hx hb dX0_step_57 rfl (lv_at hl 2 rfl) ?_
      refine lv_dup2_11 hx hb dX0_step_58 rfl rfl ?_
      refine ta_iald C hP 2 rfl (i := 2) (by omega) dX0_step_59 ?_
      refine ta_iconst C 1 dX0_step_60 (by decide) ?_
      refine ta_iadd C (a := (tg_wal g) 2) (b := 1) dX0_step_61 ?_
      refine ta_iast C hP hD hS 2 rfl (i := 2) (v := ((tg_wal g) 2) + 1) (by omega) dX0_step_62 (fun H locs hP hD hS => ?_)
      have hP : va_P D vwCl [(q 0, .inr (0, [.int (nI (t 0)), .int (nI (t 1)), .int (nI (t 2)), .int (nI (g 0)), .int (nI (g 1)), .int (nI y), .int (nI x), .int (nI (g 3)), .int (nI (g 4)), .int (nI (g 5)), .ref (q 1), .ref (q 2), .ref (q 3), .ref (q 4)])), (q 1, .inl (k.1 0, 36, .inl (ta_e (tg_mud g)))), (q 2, .inl (k.1 0, 4, .inl (ta_e (ta_u (tg_wal g) 2 (((tg_wal g) 2) + 1))))), (q 3, .inl (k.1 0, 2, .inl (ta_e (tg_kne g)))), (q 4, .inl (k.1 2, 2, .inr (.inr (.inr (.inr (ta_dr (q 5) (q 8))))))), (q 5, .inr (1, [.ref (q 6), .ref (q 7), .int (nI (g 6))])), (q 6, .inl (k.1 0, 8, .inl (ta_e (X 0)))), (q 7, .inl (k.1 0, 8, .inl (ta_e (X 1)))), (q 8, .inr (1, [.ref (q 9), .ref (q 10), .int (nI (g 7))])), (q 9, .inl (k.1 0, 8, .inl (ta_e (X 2)))), (q 10, .inl (k.1 0, 8, .inl (ta_e (X 3))))] H := hP
      have hD : va_D A [(q 0, .inr (0, [.int (nI (t 0)), .int (nI (t 1)), .int (nI (t 2)), .int (nI (g 0)), .int (nI (g 1)), .int (nI y), .int (nI x), .int (nI (g 3)), .int (nI (g 4)), .int (nI (g 5)), .ref (q 1), .ref (q 2), .ref (q 3), .ref (q 4)])), (q 1, .inl (k.1 0, 36, .inl (ta_e (tg_mud g)))), (q 2, .inl (k.1 0, 4, .inl (ta_e (ta_u (tg_wal g) 2 (((tg_wal g) 2) + 1))))), (q 3, .inl (k.1 0, 2, .inl (ta_e (tg_kne g)))), (q 4, .inl (k.1 2, 2, .inr (.inr (.inr (.inr (ta_dr (q 5) (q 8))))))), (q 5, .inr (1, [.ref (q 6), .ref (q 7), .int (nI (g 6))])), (q 6, .inl (k.1 0, 8, .inl (ta_e (X 0)))), (q 7, .inl (k.1 0, 8, .inl (ta_e (X 1)))), (q 8, .inr (1, [.ref (q 9), .ref (q 10), .int (nI (g 7))])), (q 9, .inl (k.1 0, 8, .inl (ta_e (X 2)))), (q 10, .inl (k.1 0, 8, .inl (ta_e (X 3))))] := hD
      have e : tg_step t g 2 = tg_wall g 2 := by rw [tg_step2, ← hy, ← hx0]; first | exact if_pos (by omega) | exact if_neg (by omega)
      rw [e] at ret
      subst hy hx0
      exact ret () dX0_step_63 trivial (dy_to (t := t) (g := tg_wall g 2) ⟨rfl, rfl, rfl, rfl, rfl, rfl, rfl, rfl, rfl, rfl, rfl, rfl⟩ (fun j hj => (tg_wall_k (by omega)).symm) (fun j hj => by
          unfold tg_wall tg_wal ta_u
          by_cases h9 : j = 2
          · rw [if_pos h9, if_pos (by omega)]
          · rw [if_neg h9, if_neg (by omega)]) (fun j hj => (tg_wall_k (by omega)).symm) hP) (ta_De hD rfl) hS
    · refine lv_iload hx hb dX0_step_39 (lv_at hl 0 rfl) ?_
      refine ta_ilt C (a := x) (tgt := 53) (by omega) dX0_step_41 (by decide) ?_
      refine lv_iload hx hb dX0_step_44 (lv_at hl 0 rfl) ?_
      refine lv_aload_n hx hb dX0_step_46 rfl (lv_at hl 3 rfl) ?_
      refine ta_get C hP 0 inlX0 rfl rfl 0 (by decide) tw_100 rfl dX0_step_47 ?_
      refine ta_clt C (a := x) (b := t 0) (tgt := 64) (by omega) (by omega) dX0_step_50 (by decide) (fun c19 => ?_) (fun c19 => ?_)
      · refine lv_aload_n hx hb dX0_step_64 rfl (lv_at hl 3 rfl) ?_
        refine lv_iload_n hx hb dX0_step_65 rfl (lv_at hl 1 rfl) ?_
        refine ta_put C hP hD hS 0 inlX0 tyX0 tyX0_ok nmX0 rfl rfl 5 (by decide) tw_105 rfl rfl rfl (Nat.le_of_ble_eq_true rfl) dX0_step_66 (fun H locs hP hD hS => ?_)
        have hP : va_P D vwCl [(q 0, .inr (0, [.int (nI (t 0)), .int (nI (t 1)), .int (nI (t 2)), .int (nI (g 0)), .int (nI (g 1)), .int (nI (y + 1)), .int (nI x), .int (nI (g 3)), .int (nI (g 4)), .int (nI (g 5)), .ref (q 1), .ref (q 2), .ref (q 3), .ref (q 4)])), (q 1, .inl (k.1 0, 36, .inl (ta_e (tg_mud g)))), (q 2, .inl (k.1 0, 4, .inl (ta_e (tg_wal g)))), (q 3, .inl (k.1 0, 2, .inl (ta_e (tg_kne g)))), (q 4, .inl (k.1 2, 2, .inr (.inr (.inr (.inr (ta_dr (q 5) (q 8))))))), (q 5, .inr (1, [.ref (q 6), .ref (q 7), .int (nI (g 6))])), (q 6, .inl (k.1 0, 8, .inl (ta_e (X 0)))), (q 7, .inl (k.1 0, 8, .inl (ta_e (X 1)))), (q 8, .inr (1, [.ref (q 9), .ref (q 10), .int (nI (g 7))])), (q 9, .inl (k.1 0, 8, .inl (ta_e (X 2)))), (q 10, .inl (k.1 0, 8, .inl (ta_e (X 3))))] H := hP
        have hD : va_D A [(q 0, .inr (0, [.int (nI (t 0)), .int (nI (t 1)), .int (nI (t 2)), .int (nI (g 0)), .int (nI (g 1)), .int (nI (y + 1)), .int (nI x), .int (nI (g 3)), .int (nI (g 4)), .int (nI (g 5)), .ref (q 1), .ref (q 2), .ref (q 3), .ref (q 4)])), (q 1, .inl (k.1 0, 36, .inl (ta_e (tg_mud g)))), (q 2, .inl (k.1 0, 4, .inl (ta_e (tg_wal g)))), (q 3, .inl (k.1 0, 2, .inl (ta_e (tg_kne g)))), (q 4, .inl (k.1 2, 2, .inr (.inr (.inr (.inr (ta_dr (q 5) (q 8))))))), (q 5, .inr (1, [.ref (q 6), .ref (q 7), .int (nI (g 6))])), (q 6, .inl (k.1 0, 8, .inl (ta_e (X 0)))), (q 7, .inl (k.1 0, 8, .inl (ta_e (X 1)))), (q 8, .inr (1, [.ref (q 9), .ref (q 10), .int (nI (g 7))])), (q 9, .inl (k.1 0, 8, .inl (ta_e (X 2)))), (q 10, .inl (k.1 0, 8, .inl (ta_e (X 3))))] := hD
        refine lv_aload_n hx hb dX0_step_69 rfl (lv_at hl 3 rfl) ?_
        refine lv_iload hx hb dX0_step_70 (lv_at hl 0 rfl) ?_
        refine ta_put C hP hD hS 0 inlX0 tyX0 tyX0_ok nmX0 rfl rfl 6 (by decide) tw_106 rfl rfl rfl (Nat.le_of_ble_eq_true rfl) dX0_step_72 (fun H locs hP hD hS => ?_)
        have hP : va_P D vwCl [(q 0, .inr (0, [.int (nI (t 0)), .int (nI (t 1)), .int (nI (t 2)), .int (nI (g 0)), .int (nI (g 1)), .int (nI (y + 1)), .int (nI x), .int (nI (g 3)), .int (nI (g 4)), .int (nI (g 5)), .ref (q 1), .ref (q 2), .ref (q 3), .ref (q 4)])), (q 1, .inl (k.1 0, 36, .inl (ta_e (tg_mud g)))), (q 2, .inl (k.1 0, 4, .inl (ta_e (tg_wal g)))), (q 3, .inl (k.1 0, 2, .inl (ta_e (tg_kne g)))), (q 4, .inl (k.1 2, 2, .inr (.inr (.inr (.inr (ta_dr (q 5) (q 8))))))), (q 5, .inr (1, [.ref (q 6), .ref (q 7), .int (nI (g 6))])), (q 6, .inl (k.1 0, 8, .inl (ta_e (X 0)))), (q 7, .inl (k.1 0, 8, .inl (ta_e (X 1)))), (q 8, .inr (1, [.ref (q 9), .ref (q 10), .int (nI (g 7))])), (q 9, .inl (k.1 0, 8, .inl (ta_e (X 2)))), (q 10, .inl (k.1 0, 8, .inl (ta_e (X 3))))] H := hP
        have hD : va_D A [(q 0, .inr (0, [.int (nI (t 0)), .int (nI (t 1)), .int (nI (t 2)), .int (nI (g 0)), .int (nI (g 1)), .int (nI (y + 1)), .int (nI x), .int (nI (g 3)), .int (nI (g 4)), .int (nI (g 5)), .ref (q 1), .ref (q 2), .ref (q 3), .ref (q 4)])), (q 1, .inl (k.1 0, 36, .inl (ta_e (tg_mud g)))), (q 2, .inl (k.1 0, 4, .inl (ta_e (tg_wal g)))), (q 3, .inl (k.1 0, 2, .inl (ta_e (tg_kne g)))), (q 4, .inl (k.1 2, 2, .inr (.inr (.inr (.inr (ta_dr (q 5) (q 8))))))), (q 5, .inr (1, [.ref (q 6), .ref (q 7), .int (nI (g 6))])), (q 6, .inl (k.1 0, 8, .inl (ta_e (X 0)))), (q 7, .inl (k.1 0, 8, .inl (ta_e (X 1)))), (q 8, .inr (1, [.ref (q 9), .ref (q 10), .int (nI (g 7))])), (q 9, .inl (k.1 0, 8, .inl (ta_e (X 2)))), (q 10, .inl (k.1 0, 8, .inl (ta_e (X 3))))] := hD
        refine lv_aload_n hx hb dX0_step_75 rfl (lv_at hl 3 rfl) ?_
        refine ta_get C hP 0 inlX0 rfl rfl 10 (by decide) tw_78 rfl dX0_step_76 ?_
        refine lv_aload_n hx hb dX0_step_79 rfl (lv_at hl 3 rfl) ?_
        refine ta_callVi (As := []) (rest0 := [.ref (q 1)]) (Wr := [(q 1, .inl (k.1 0, 36, .inl (ta_e (tg_mud g)))), (q 2, .inl (k.1 0, 4, .inl (ta_e (tg_wal g)))), (q 3, .inl (k.1 0, 2, .inl (ta_e (tg_kne g)))), (q 4, .inl (k.1 2, 2, .inr (.inr (.inr (.inr (ta_dr (q 5) (q 8))))))), (q 5, .inr (1, [.ref (q 6), .ref (q 7), .int (nI (g 6))])), (q 6, .inl (k.1 0, 8, .inl (ta_e (X 0)))), (q 7, .inl (k.1 0, 8, .inl (ta_e (X 1)))), (q 8, .inr (1, [.ref (q 9), .ref (q 10), .int (nI (g 7))])), (q 9, .inl (k.1 0, 8, .inl (ta_e (X 2)))), (q 10, .inl (k.1 0, 8, .inl (ta_e (X 3))))]) C hP hD hS (c_X0_cell_r l D k (q 0) (q 1) (q 2) (q 3) (q 4) (t 0) (t 1) (t 2) (g 0) (g 1) (y + 1) x (g 3) (g 4) (g 5)) 0 rfl rfl rfl [0] [1, 2, 3, 4, 5, 6, 7, 8, 9, 10] rfl rfl (by decide) (by decide) (by decide) tw_464 tw_461 tw_26 tw_462 tw_463 ⟨by decide, by decide, rfl⟩ ⟨Nat.le_of_ble_eq_true rfl, Nat.le_of_ble_eq_true rfl⟩ ⟨Nat.zero_le _, Nat.zero_le _⟩ hl.1 rfl (Nat.le_of_ble_eq_true rfl) dX0_step_80 (fun r20 u21 H locs h22 hP hD hS => ?_)
        obtain rfl := h22
        have hP : va_P D vwCl [(q 1, .inl (k.1 0, 36, .inl (ta_e (tg_mud g)))), (q 2, .inl (k.1 0, 4, .inl (ta_e (tg_wal g)))), (q 3, .inl (k.1 0, 2, .inl (ta_e (tg_kne g)))), (q 4, .inl (k.1 2, 2, .inr (.inr (.inr (.inr (ta_dr (q 5) (q 8))))))), (q 5, .inr (1, [.ref (q 6), .ref (q 7), .int (nI (g 6))])), (q 6, .inl (k.1 0, 8, .inl (ta_e (X 0)))), (q 7, .inl (k.1 0, 8, .inl (ta_e (X 1)))), (q 8, .inr (1, [.ref (q 9), .ref (q 10), .int (nI (g 7))])), (q 9, .inl (k.1 0, 8, .inl (ta_e (X 2)))), (q 10, .inl (k.1 0, 8, .inl (ta_e (X 3)))), (q 0, .inr (0, [.int (nI (t 0)), .int (nI (t 1)), .int (nI (t 2)), .int (nI (g 0)), .int (nI (g 1)), .int (nI (y + 1)), .int (nI x), .int (nI (g 3)), .int (nI (g 4)), .int (nI (g 5)), .ref (q 1), .ref (q 2), .ref (q 3), .ref (q 4)]))] H := hP
        have hD : va_D A [(q 1, .inl (k.1 0, 36, .inl (ta_e (tg_mud g)))), (q 2, .inl (k.1 0, 4, .inl (ta_e (tg_wal g)))), (q 3, .inl (k.1 0, 2, .inl (ta_e (tg_kne g)))), (q 4, .inl (k.1 2, 2, .inr (.inr (.inr (.inr (ta_dr (q 5) (q 8))))))), (q 5, .inr (1, [.ref (q 6), .ref (q 7), .int (nI (g 6))])), (q 6, .inl (k.1 0, 8, .inl (ta_e (X 0)))), (q 7, .inl (k.1 0, 8, .inl (ta_e (X 1)))), (q 8, .inr (1, [.ref (q 9), .ref (q 10), .int (nI (g 7))])), (q 9, .inl (k.1 0, 8, .inl (ta_e (X 2)))), (q 10, .inl (k.1 0, 8, .inl (ta_e (X 3)))), (q 0, .inr (0, [.int (nI (t 0)), .int (nI (t 1)), .int (nI (t 2)), .int (nI (g 0)), .int (nI (g 1)), .int (nI (y + 1)), .int (nI x), .int (nI (g 3)), .int (nI (g 4)), .int (nI (g 5)), .ref (q 1), .ref (q 2), .ref (q 3), .ref (q 4)]))] := hD
        have hlt : (y + 1) * t 0 + x < 36 := by rw [Nat.mul_comm]; exact Nat.lt_of_lt_of_le (tg_lt (w := t 0) (h := t 1) (by omega) (by omega)) (tg_36 (by omega) (by omega))
        refine lv_dup2_11 hx hb dX0_step_83 rfl rfl ?_
        refine ta_iald C hP 0 rfl (i := (y + 1) * (t 0) + x) (by omega) dX0_step_84 ?_
        refine ta_iconst C 1 dX0_step_85 (by decide) ?_
        refine ta_iadd C (a := (tg_mud g) ((y + 1) * (t 0) + x)) (b := 1) dX0_step_86 ?_
        refine ta_iast C hP hD hS 0 rfl (i := (y + 1) * (t 0) + x) (v := ((tg_mud g) ((y + 1) * (t 0) + x)) + 1) (by omega) dX0_step_87 (fun H locs hP hD hS => ?_)
        have hP : va_P D vwCl [(q 1, .inl (k.1 0, 36, .inl (ta_e (ta_u (tg_mud g) ((y + 1) * (t 0) + x) (((tg_mud g) ((y + 1) * (t 0) + x)) + 1))))), (q 2, .inl (k.1 0, 4, .inl (ta_e (tg_wal g)))), (q 3, .inl (k.1 0, 2, .inl (ta_e (tg_kne g)))), (q 4, .inl (k.1 2, 2, .inr (.inr (.inr (.inr (ta_dr (q 5) (q 8))))))), (q 5, .inr (1, [.ref (q 6), .ref (q 7), .int (nI (g 6))])), (q 6, .inl (k.1 0, 8, .inl (ta_e (X 0)))), (q 7, .inl (k.1 0, 8, .inl (ta_e (X 1)))), (q 8, .inr (1, [.ref (q 9), .ref (q 10), .int (nI (g 7))])), (q 9, .inl (k.1 0, 8, .inl (ta_e (X 2)))), (q 10, .inl (k.1 0, 8, .inl (ta_e (X 3)))), (q 0, .inr (0, [.int (nI (t 0)), .int (nI (t 1)), .int (nI (t 2)), .int (nI (g 0)), .int (nI (g 1)), .int (nI (y + 1)), .int (nI x), .int (nI (g 3)), .int (nI (g 4)), .int (nI (g 5)), .ref (q 1), .ref (q 2), .ref (q 3), .ref (q 4)]))] H := hP
        have hD : va_D A [(q 1, .inl (k.1 0, 36, .inl (ta_e (ta_u (tg_mud g) ((y + 1) * (t 0) + x) (((tg_mud g) ((y + 1) * (t 0) + x)) + 1))))), (q 2, .inl (k.1 0, 4, .inl (ta_e (tg_wal g)))), (q 3, .inl (k.1 0, 2, .inl (ta_e (tg_kne g)))), (q 4, .inl (k.1 2, 2, .inr (.inr (.inr (.inr (ta_dr (q 5) (q 8))))))), (q 5, .inr (1, [.ref (q 6), .ref (q 7), .int (nI (g 6))])), (q 6, .inl (k.1 0, 8, .inl (ta_e (X 0)))), (q 7, .inl (k.1 0, 8, .inl (ta_e (X 1)))), (q 8, .inr (1, [.ref (q 9), .ref (q 10), .int (nI (g 7))])), (q 9, .inl (k.1 0, 8, .inl (ta_e (X 2)))), (q 10, .inl (k.1 0, 8, .inl (ta_e (X 3)))), (q 0, .inr (0, [.int (nI (t 0)), .int (nI (t 1)), .int (nI (t 2)), .int (nI (g 0)), .int (nI (g 1)), .int (nI (y + 1)), .int (nI x), .int (nI (g 3)), .int (nI (g 4)), .int (nI (g 5)), .ref (q 1), .ref (q 2), .ref (q 3), .ref (q 4)]))] := hD
        have e : tg_step t g 2 = tg_mv t g (y + 1) x := by rw [tg_step2, ← hy, ← hx0]; first | exact if_pos (by omega) | exact if_neg (by omega)
        rw [e] at ret
        obtain ⟨e5, e6⟩ := tg_rc (w := t 0) (y := y + 1) (x := x) (by omega)
        have ecm : (y + 1) * t 0 + x = t 0 * (y + 1) + x := by rw [Nat.mul_comm]
        have hP : va_P D vwCl [(q 0, .inr (0, [.int (nI (t 0)), .int (nI (t 1)), .int (nI (t 2)), .int (nI (g 0)), .int (nI (g 1)), .int (nI (y + 1)), .int (nI x), .int (nI (g 3)), .int (nI (g 4)), .int (nI (g 5)), .ref (q 1), .ref (q 2), .ref (q 3), .ref (q 4)])), (q 1, .inl (k.1 0, 36, .inl (ta_e (ta_u (tg_mud g) ((y + 1) * (t 0) + x) (((tg_mud g) ((y + 1) * (t 0) + x)) + 1))))), (q 2, .inl (k.1 0, 4, .inl (ta_e (tg_wal g)))), (q 3, .inl (k.1 0, 2, .inl (ta_e (tg_kne g)))), (q 4, .inl (k.1 2, 2, .inr (.inr (.inr (.inr (ta_dr (q 5) (q 8))))))), (q 5, .inr (1, [.ref (q 6), .ref (q 7), .int (nI (g 6))])), (q 6, .inl (k.1 0, 8, .inl (ta_e (X 0)))), (q 7, .inl (k.1 0, 8, .inl (ta_e (X 1)))), (q 8, .inr (1, [.ref (q 9), .ref (q 10), .int (nI (g 7))])), (q 9, .inl (k.1 0, 8, .inl (ta_e (X 2)))), (q 10, .inl (k.1 0, 8, .inl (ta_e (X 3))))] H := hP.sub [10, 0, 1, 2, 3, 4, 5, 6, 7, 8, 9] rfl
        have hD : va_D A [(q 0, .inr (0, [.int (nI (t 0)), .int (nI (t 1)), .int (nI (t 2)), .int (nI (g 0)), .int (nI (g 1)), .int (nI (y + 1)), .int (nI x), .int (nI (g 3)), .int (nI (g 4)), .int (nI (g 5)), .ref (q 1), .ref (q 2), .ref (q 3), .ref (q 4)])), (q 1, .inl (k.1 0, 36, .inl (ta_e (ta_u (tg_mud g) ((y + 1) * (t 0) + x) (((tg_mud g) ((y + 1) * (t 0) + x)) + 1))))), (q 2, .inl (k.1 0, 4, .inl (ta_e (tg_wal g)))), (q 3, .inl (k.1 0, 2, .inl (ta_e (tg_kne g)))), (q 4, .inl (k.1 2, 2, .inr (.inr (.inr (.inr (ta_dr (q 5) (q 8))))))), (q 5, .inr (1, [.ref (q 6), .ref (q 7), .int (nI (g 6))])), (q 6, .inl (k.1 0, 8, .inl (ta_e (X 0)))), (q 7, .inl (k.1 0, 8, .inl (ta_e (X 1)))), (q 8, .inr (1, [.ref (q 9), .ref (q 10), .int (nI (g 7))])), (q 9, .inl (k.1 0, 8, .inl (ta_e (X 2)))), (q 10, .inl (k.1 0, 8, .inl (ta_e (X 3))))] := hD.sub [10, 0, 1, 2, 3, 4, 5, 6, 7, 8, 9] (by decide) rfl
        rw [ecm] at hP hD
        exact ret () dX0_step_88 trivial (dy_to (t := t) (g := tg_mv t g (y + 1) x) ⟨rfl, rfl, rfl, (tg_mv_k (by omega) (by omega)).symm, (tg_mv_k (by omega) (by omega)).symm, (by rw [tg_mv_2]; exact e5.symm), (by rw [tg_mv_2]; exact e6.symm), (tg_mv_k (by omega) (by omega)).symm, (tg_mv_k (by omega) (by omega)).symm, (tg_mv_k (by omega) (by omega)).symm, (tg_mv_k (by omega) (by omega)).symm, (tg_mv_k (by omega) (by omega)).symm⟩ (fun j hj => tg_mv_m.symm) (fun j hj => (tg_mv_k (by omega) (by omega)).symm) (fun j hj => (tg_mv_k (by omega) (by omega)).symm) hP) (ta_De hD rfl) hS
      · exfalso; omega
  · refine lv_istore_n (lv' := [(2, .int (nI 3)), (0, .ref (q 0)), (1, .int (nI dir))]) hx hb dX0_step_3 rfl hl (by decide) rfl (fun ls hl => ?_)
    refine lv_aload_n hx hb dX0_step_4 rfl (lv_at hl 1 rfl) ?_
    refine ta_get C hP 0 inlX0 rfl rfl 5 (by decide) tw_105 rfl dX0_step_5 ?_
    refine va_getsN hx hb C.2.1.2.2.2.1.1 hS C.1.2.2.2.1 ((C.2.1.2.1.1 _ (List.mem_of_getElem? (i := 24) rfl)).use rfl) (fun _ h => h) dX0_step_8 ?_
    refine lv_iload_n hx hb dX0_step_11 rfl (lv_at hl 0 rfl) ?_
    refine ta_sti C C.2.1.2.2.2.1.2 hS (i := 3) (by omega) dX0_step_12 ?_
    refine ta_nv (y := 0) (by decide) ?_
    refine ta_iadd C (a := y) (b := 0) dX0_step_13 ?_
    refine ta_nv (y := y) (Nat.add_zero _) ?_
    refine lv_istore_n (lv' := [(3, .int (nI y)), (2, .int (nI 3)), (0, .ref (q 0)), (1, .int (nI dir))]) hx hb dX0_step_14 rfl hl (by decide) rfl (fun ls hl => ?_)
    refine lv_aload_n hx hb dX0_step_15 rfl (lv_at hl 2 rfl) ?_
    refine ta_get C hP 0 inlX0 rfl rfl 6 (by decide) tw_106 rfl dX0_step_16 ?_
    refine va_getsN hx hb C.2.1.2.2.2.2.1.1 hS C.1.2.2.2.1 ((C.2.1.2.1.1 _ (List.mem_of_getElem? (i := 39) rfl)).use rfl) (fun _ h => h) dX0_step_19 ?_
    refine lv_iload_n hx hb dX0_step_22 rfl (lv_at hl 1 rfl) ?_
    refine ta_sti C C.2.1.2.2.2.2.1.2 hS (i := 3) (by omega) dX0_step_23 ?_
    refine ta_nv (y := 4294967295) (by decide) ?_
    refine ta_iadd C (a := x) (b := 4294967295) dX0_step_24 ?_
    rcases Nat.eq_zero_or_pos x with h0 | h0
    · refine ta_nv (y := 4294967295) (by omega) ?_
      refine lv_istore (lv' := [(4, .int (nI 4294967295)), (3, .int (nI y)), (2, .int (nI 3)), (0, .ref (q 0)), (1, .int (nI dir))]) hx hb dX0_step_25 hl (by decide) rfl (fun ls hl => ?_)
      refine lv_iload_n hx hb dX0_step_27 rfl (lv_at hl 1 rfl) ?_
      refine ta_ilt C (a := y) (tgt := 53) (by omega) dX0_step_28 (by decide) ?_
      refine lv_iload_n hx hb dX0_step_31 rfl (lv_at hl 1 rfl) ?_
      refine lv_aload_n hx hb dX0_step_32 rfl (lv_at hl 3 rfl) ?_
      refine ta_get C hP 0 inlX0 rfl rfl 1 (by decide) tw_101 rfl dX0_step_33 ?_
      refine ta_cge C (a := y) (b := t 1) (tgt := 53) (by omega) (by omega) dX0_step_36 (by decide) (fun c24 => ?_) (fun c24 => ?_)
      · exfalso; omega
      · refine lv_iload hx hb dX0_step_39 (lv_at hl 0 rfl) ?_
        refine lv_if_lt (tgt := 53) hx hb dX0_step_41 (by decide) (fun c25 => ?_) (fun c25 => ?_)
        · refine lv_aload_n hx hb dX0_step_53 rfl (lv_at hl 3 rfl) ?_
          refine ta_get C hP 0 inlX0 rfl rfl 11 (by decide) tw_79 rfl dX0_step_54 ?_
          refine lv_iload_n hx hb dX0_step_57 rfl (lv_at hl 2 rfl) ?_
          refine lv_dup2_11 hx hb dX0_step_58 rfl rfl ?_
          refine ta_iald C hP 2 rfl (i := 3) (by omega) dX0_step_59 ?_
          refine ta_iconst C 1 dX0_step_60 (by decide) ?_
          refine ta_iadd C (a := (tg_wal g) 3) (b := 1) dX0_step_61 ?_
          refine ta_iast C hP hD hS 2 rfl (i := 3) (v := ((tg_wal g) 3) + 1) (by omega) dX0_step_62 (fun H locs hP hD hS => ?_)
          have hP : va_P D vwCl [(q 0, .inr (0, [.int (nI (t 0)), .int (nI (t 1)), .int (nI (t 2)), .int (nI (g 0)), .int (nI (g 1)), .int (nI y), .int (nI x), .int (nI (g 3)), .int (nI (g 4)), .int (nI (g 5)), .ref (q 1), .ref (q 2), .ref (q 3), .ref (q 4)])), (q 1, .inl (k.1 0, 36, .inl (ta_e (tg_mud g)))), (q 2, .inl (k.1 0, 4, .inl (ta_e (ta_u (tg_wal g) 3 (((tg_wal g) 3) + 1))))), (q 3, .inl (k.1 0, 2, .inl (ta_e (tg_kne g)))), (q 4, .inl (k.1 2, 2, .inr (.inr (.inr (.inr (ta_dr (q 5) (q 8))))))), (q 5, .inr (1, [.ref (q 6), .ref (q 7), .int (nI (g 6))])), (q 6, .inl (k.1 0, 8, .inl (ta_e (X 0)))), (q 7, .inl (k.1 0, 8, .inl (ta_e (X 1)))), (q 8, .inr (1, [.ref (q 9), .ref (q 10), .int (nI (g 7))])), (q 9, .inl (k.1 0, 8, .inl (ta_e (X 2)))), (q 10, .inl (k.1 0, 8, .inl (ta_e (X 3))))] H := hP
          have hD : va_D A [(q 0, .inr (0, [.int (nI (t 0)), .int (nI (t 1)), .int (nI (t 2)), .int (nI (g 0)), .int (nI (g 1)), .int (nI y), .int (nI x), .int (nI (g 3)), .int (nI (g 4)), .int (nI (g 5)), .ref (q 1), .ref (q 2), .ref (q 3), .ref (q 4)])), (q 1, .inl (k.1 0, 36, .inl (ta_e (tg_mud g)))), (q 2, .inl (k.1 0, 4, .inl (ta_e (ta_u (tg_wal g) 3 (((tg_wal g) 3) + 1))))), (q 3, .inl (k.1 0, 2, .inl (ta_e (tg_kne g)))), (q 4, .inl (k.1 2, 2, .inr (.inr (.inr (.inr (ta_dr (q 5) (q 8))))))), (q 5, .inr (1, [.ref (q 6), .ref (q 7), .int (nI (g 6))])), (q 6, .inl (k.1 0, 8, .inl (ta_e (X 0)))), (q 7, .inl (k.1 0, 8, .inl (ta_e (X 1)))), (q 8, .inr (1, [.ref (q 9), .ref (q 10), .int (nI (g 7))])), (q 9, .inl (k.1 0, 8, .inl (ta_e (X 2)))), (q 10, .inl (k.1 0, 8, .inl (ta_e (X 3))))] := hD
          have e : tg_step t g 3 = tg_wall g 3 := by rw [tg_step3, ← hy, ← hx0]; first | exact if_pos (by omega) | exact if_neg (by omega)
          rw [e] at ret
          subst hy hx0
          exact ret () dX0_step_63 trivial (dy_to (t := t) (g := tg_wall g 3) ⟨rfl, rfl, rfl, rfl, rfl, rfl, rfl, rfl, rfl, rfl, rfl, rfl⟩ (fun j hj => (tg_wall_k (by omega)).symm) (fun j hj => by
              unfold tg_wall tg_wal ta_u
              by_cases h9 : j = 3
              · rw [if_pos h9, if_pos (by omega)]
              · rw [if_neg h9, if_neg (by omega)]) (fun j hj => (tg_wall_k (by omega)).symm) hP) (ta_De hD rfl) hS
        · exact absurd c25 (by decide)
    · refine ta_val (ta_wrap h0) ?_
      refine lv_istore (lv' := [(4, .int (nI (x - 1))), (3, .int (nI y)), (2, .int (nI 3)), (0, .ref (q 0)), (1, .int (nI dir))]) hx hb dX0_step_25 hl (by decide) rfl (fun ls hl => ?_)
      refine lv_iload_n hx hb dX0_step_27 rfl (lv_at hl 1 rfl) ?_
      refine ta_ilt C (a := y) (tgt := 53) (by omega) dX0_step_28 (by decide) ?_
      refine lv_iload_n hx hb dX0_step_31 rfl (lv_at hl 1 rfl) ?_
      refine lv_aload_n hx hb dX0_step_32 rfl (lv_at hl 3 rfl) ?_
      refine ta_get C hP 0 inlX0 rfl rfl 1 (by decide) tw_101 rfl dX0_step_33 ?_
      refine ta_cge C (a := y) (b := t 1) (tgt := 53) (by omega) (by omega) dX0_step_36 (by decide) (fun c27 => ?_) (fun c27 => ?_)
      · exfalso; omega
      · refine lv_iload hx hb dX0_step_39 (lv_at hl 0 rfl) ?_
        refine ta_ilt C (a := x - 1) (tgt := 53) (by omega) dX0_step_41 (by decide) ?_
        refine lv_iload hx hb dX0_step_44 (lv_at hl 0 rfl) ?_
        refine lv_aload_n hx hb dX0_step_46 rfl (lv_at hl 3 rfl) ?_
        refine ta_get C hP 0 inlX0 rfl rfl 0 (by decide) tw_100 rfl dX0_step_47 ?_
        refine ta_clt C (a := x - 1) (b := t 0) (tgt := 64) (by omega) (by omega) dX0_step_50 (by decide) (fun c29 => ?_) (fun c29 => ?_)
        · refine lv_aload_n hx hb dX0_step_64 rfl (lv_at hl 3 rfl) ?_
          refine lv_iload_n hx hb dX0_step_65 rfl (lv_at hl 1 rfl) ?_
          refine ta_put C hP hD hS 0 inlX0 tyX0 tyX0_ok nmX0 rfl rfl 5 (by decide) tw_105 rfl rfl rfl (Nat.le_of_ble_eq_true rfl) dX0_step_66 (fun H locs hP hD hS => ?_)
          have hP : va_P D vwCl [(q 0, .inr (0, [.int (nI (t 0)), .int (nI (t 1)), .int (nI (t 2)), .int (nI (g 0)), .int (nI (g 1)), .int (nI y), .int (nI x), .int (nI (g 3)), .int (nI (g 4)), .int (nI (g 5)), .ref (q 1), .ref (q 2), .ref (q 3), .ref (q 4)])), (q 1, .inl (k.1 0, 36, .inl (ta_e (tg_mud g)))), (q 2, .inl (k.1 0, 4, .inl (ta_e (tg_wal g)))), (q 3, .inl (k.1 0, 2, .inl (ta_e (tg_kne g)))), (q 4, .inl (k.1 2, 2, .inr (.inr (.inr (.inr (ta_dr (q 5) (q 8))))))), (q 5, .inr (1, [.ref (q 6), .ref (q 7), .int (nI (g 6))])), (q 6, .inl (k.1 0, 8, .inl (ta_e (X 0)))), (q 7, .inl (k.1 0, 8, .inl (ta_e (X 1)))), (q 8, .inr (1, [.ref (q 9), .ref (q 10), .int (nI (g 7))])), (q 9, .inl (k.1 0, 8, .inl (ta_e (X 2)))), (q 10, .inl (k.1 0, 8, .inl (ta_e (X 3))))] H := hP
          have hD : va_D A [(q 0, .inr (0, [.int (nI (t 0)), .int (nI (t 1)), .int (nI (t 2)), .int (nI (g 0)), .int (nI (g 1)), .int (nI y), .int (nI x), .int (nI (g 3)), .int (nI (g 4)), .int (nI (g 5)), .ref (q 1), .ref (q 2), .ref (q 3), .ref (q 4)])), (q 1, .inl (k.1 0, 36, .inl (ta_e (tg_mud g)))), (q 2, .inl (k.1 0, 4, .inl (ta_e (tg_wal g)))), (q 3, .inl (k.1 0, 2, .inl (ta_e (tg_kne g)))), (q 4, .inl (k.1 2, 2, .inr (.inr (.inr (.inr (ta_dr (q 5) (q 8))))))), (q 5, .inr (1, [.ref (q 6), .ref (q 7), .int (nI (g 6))])), (q 6, .inl (k.1 0, 8, .inl (ta_e (X 0)))), (q 7, .inl (k.1 0, 8, .inl (ta_e (X 1)))), (q 8, .inr (1, [.ref (q 9), .ref (q 10), .int (nI (g 7))])), (q 9, .inl (k.1 0, 8, .inl (ta_e (X 2)))), (q 10, .inl (k.1 0, 8, .inl (ta_e (X 3))))] := hD
          refine lv_aload_n hx hb dX0_step_69 rfl (lv_at hl 3 rfl) ?_
          refine lv_iload hx hb dX0_step_70 (lv_at hl 0 rfl) ?_
          refine ta_put C hP hD hS 0 inlX0 tyX0 tyX0_ok nmX0 rfl rfl 6 (by decide) tw_106 rfl rfl rfl (Nat.le_of_ble_eq_true rfl) dX0_step_72 (fun H locs hP hD hS => ?_)
          have hP : va_P D vwCl [(q 0, .inr (0, [.int (nI (t 0)), .int (nI (t 1)), .int (nI (t 2)), .int (nI (g 0)), .int (nI (g 1)), .int (nI y), .int (nI (x - 1)), .int (nI (g 3)), .int (nI (g 4)), .int (nI (g 5)), .ref (q 1), .ref (q 2), .ref (q 3), .ref (q 4)])), (q 1, .inl (k.1 0, 36, .inl (ta_e (tg_mud g)))), (q 2, .inl (k.1 0, 4, .inl (ta_e (tg_wal g)))), (q 3, .inl (k.1 0, 2, .inl (ta_e (tg_kne g)))), (q 4, .inl (k.1 2, 2, .inr (.inr (.inr (.inr (ta_dr (q 5) (q 8))))))), (q 5, .inr (1, [.ref (q 6), .ref (q 7), .int (nI (g 6))])), (q 6, .inl (k.1 0, 8, .inl (ta_e (X 0)))), (q 7, .inl (k.1 0, 8, .inl (ta_e (X 1)))), (q 8, .inr (1, [.ref (q 9), .ref (q 10), .int (nI (g 7))])), (q 9, .inl (k.1 0, 8, .inl (ta_e (X 2)))), (q 10, .inl (k.1 0, 8, .inl (ta_e (X 3))))] H := hP
          have hD : va_D A [(q 0, .inr (0, [.int (nI (t 0)), .int (nI (t 1)), .int (nI (t 2)), .int (nI (g 0)), .int (nI (g 1)), .int (nI y), .int (nI (x - 1)), .int (nI (g 3)), .int (nI (g 4)), .int (nI (g 5)), .ref (q 1), .ref (q 2), .ref (q 3), .ref (q 4)])), (q 1, .inl (k.1 0, 36, .inl (ta_e (tg_mud g)))), (q 2, .inl (k.1 0, 4, .inl (ta_e (tg_wal g)))), (q 3, .inl (k.1 0, 2, .inl (ta_e (tg_kne g)))), (q 4, .inl (k.1 2, 2, .inr (.inr (.inr (.inr (ta_dr (q 5) (q 8))))))), (q 5, .inr (1, [.ref (q 6), .ref (q 7), .int (nI (g 6))])), (q 6, .inl (k.1 0, 8, .inl (ta_e (X 0)))), (q 7, .inl (k.1 0, 8, .inl (ta_e (X 1)))), (q 8, .inr (1, [.ref (q 9), .ref (q 10), .int (nI (g 7))])), (q 9, .inl (k.1 0, 8, .inl (ta_e (X 2)))), (q 10, .inl (k.1 0, 8, .inl (ta_e (X 3))))] := hD
          refine lv_aload_n hx hb dX0_step_75 rfl (lv_at hl 3 rfl) ?_
          refine ta_get C hP 0 inlX0 rfl rfl 10 (by decide) tw_78 rfl dX0_step_76 ?_
          refine lv_aload_n hx hb dX0_step_79 rfl (lv_at hl 3 rfl) ?_
          refine ta_callVi (As := []) (rest0 := [.ref (q 1)]) (Wr := [(q 1, .inl (k.1 0, 36, .inl (ta_e (tg_mud g)))), (q 2, .inl (k.1 0, 4, .inl (ta_e (tg_wal g)))), (q 3, .inl (k.1 0, 2, .inl (ta_e (tg_kne g)))), (q 4, .inl (k.1 2, 2, .inr (.inr (.inr (.inr (ta_dr (q 5) (q 8))))))), (q 5, .inr (1, [.ref (q 6), .ref (q 7), .int (nI (g 6))])), (q 6, .inl (k.1 0, 8, .inl (ta_e (X 0)))), (q 7, .inl (k.1 0, 8, .inl (ta_e (X 1)))), (q 8, .inr (1, [.ref (q 9), .ref (q 10), .int (nI (g 7))])), (q 9, .inl (k.1 0, 8, .inl (ta_e (X 2)))), (q 10, .inl (k.1 0, 8, .inl (ta_e (X 3))))]) C hP hD hS (c_X0_cell_r l D k (q 0) (q 1) (q 2) (q 3) (q 4) (t 0) (t 1) (t 2) (g 0) (g 1) y (x - 1) (g 3) (g 4) (g 5)) 0 rfl rfl rfl [0] [1, 2, 3, 4, 5, 6, 7, 8, 9, 10] rfl rfl (by decide) (by decide) (by decide) tw_464 tw_461 tw_26 tw_462 tw_463 ⟨by decide, by decide, rfl⟩ ⟨Nat.le_of_ble_eq_true rfl, Nat.le_of_ble_eq_true rfl⟩ ⟨Nat.zero_le _, Nat.zero_le _⟩ hl.1 rfl (Nat.le_of_ble_eq_true rfl) dX0_step_80 (fun r30 u31 H locs h32 hP hD hS => ?_)
          obtain rfl := h32
          have hP : va_P D vwCl [(q 1, .inl (k.1 0, 36, .inl (ta_e (tg_mud g)))), (q 2, .inl (k.1 0, 4, .inl (ta_e (tg_wal g)))), (q 3, .inl (k.1 0, 2, .inl (ta_e (tg_kne g)))), (q 4, .inl (k.1 2, 2, .inr (.inr (.inr (.inr (ta_dr (q 5) (q 8))))))), (q 5, .inr (1, [.ref (q 6), .ref (q 7), .int (nI (g 6))])), (q 6, .inl (k.1 0, 8, .inl (ta_e (X 0)))), (q 7, .inl (k.1 0, 8, .inl (ta_e (X 1)))), (q 8, .inr (1, [.ref (q 9), .ref (q 10), .int (nI (g 7))])), (q 9, .inl (k.1 0, 8, .inl (ta_e (X 2)))), (q 10, .inl (k.1 0, 8, .inl (ta_e (X 3)))), (q 0, .inr (0, [.int (nI (t 0)), .int (nI (t 1)), .int (nI (t 2)), .int (nI (g 0)), .int (nI (g 1)), .int (nI y), .int (nI (x - 1)), .int (nI (g 3)), .int (nI (g 4)), .int (nI (g 5)), .ref (q 1), .ref (q 2), .ref (q 3), .ref (q 4)]))] H := hP
          have hD : va_D A [(q 1, .inl (k.1 0, 36, .inl (ta_e (tg_mud g)))), (q 2, .inl (k.1 0, 4, .inl (ta_e (tg_wal g)))), (q 3, .inl (k.1 0, 2, .inl (ta_e (tg_kne g)))), (q 4, .inl (k.1 2, 2, .inr (.inr (.inr (.inr (ta_dr (q 5) (q 8))))))), (q 5, .inr (1, [.ref (q 6), .ref (q 7), .int (nI (g 6))])), (q 6, .inl (k.1 0, 8, .inl (ta_e (X 0)))), (q 7, .inl (k.1 0, 8, .inl (ta_e (X 1)))), (q 8, .inr (1, [.ref (q 9), .ref (q 10), .int (nI (g 7))])), (q 9, .inl (k.1 0, 8, .inl (ta_e (X 2)))), (q 10, .inl (k.1 0, 8, .inl (ta_e (X 3)))), (q 0, .inr (0, [.int (nI (t 0)), .int (nI (t 1)), .int (nI (t 2)), .int (nI (g 0)), .int (nI (g 1)), .int (nI y), .int (nI (x - 1)), .int (nI (g 3)), .int (nI (g 4)), .int (nI (g 5)), .ref (q 1), .ref (q 2), .ref (q 3), .ref (q 4)]))] := hD
          have hlt : y * t 0 + (x - 1) < 36 := by rw [Nat.mul_comm]; exact Nat.lt_of_lt_of_le (tg_lt (w := t 0) (h := t 1) (by omega) (by omega)) (tg_36 (by omega) (by omega))
          refine lv_dup2_11 hx hb dX0_step_83 rfl rfl ?_
          refine ta_iald C hP 0 rfl (i := y * (t 0) + (x - 1)) (by omega) dX0_step_84 ?_
          refine ta_iconst C 1 dX0_step_85 (by decide) ?_
          refine ta_iadd C (a := (tg_mud g) (y * (t 0) + (x - 1))) (b := 1) dX0_step_86 ?_
          refine ta_iast C hP hD hS 0 rfl (i := y * (t 0) + (x - 1)) (v := ((tg_mud g) (y * (t 0) + (x - 1))) + 1) (by omega) dX0_step_87 (fun H locs hP hD hS => ?_)
          have hP : va_P D vwCl [(q 1, .inl (k.1 0, 36, .inl (ta_e (ta_u (tg_mud g) (y * (t 0) + (x - 1)) (((tg_mud g) (y * (t 0) + (x - 1))) + 1))))), (q 2, .inl (k.1 0, 4, .inl (ta_e (tg_wal g)))), (q 3, .inl (k.1 0, 2, .inl (ta_e (tg_kne g)))), (q 4, .inl (k.1 2, 2, .inr (.inr (.inr (.inr (ta_dr (q 5) (q 8))))))), (q 5, .inr (1, [.ref (q 6), .ref (q 7), .int (nI (g 6))])), (q 6, .inl (k.1 0, 8, .inl (ta_e (X 0)))), (q 7, .inl (k.1 0, 8, .inl (ta_e (X 1)))), (q 8, .inr (1, [.ref (q 9), .ref (q 10), .int (nI (g 7))])), (q 9, .inl (k.1 0, 8, .inl (ta_e (X 2)))), (q 10, .inl (k.1 0, 8, .inl (ta_e (X 3)))), (q 0, .inr (0, [.int (nI (t 0)), .int (nI (t 1)), .int (nI (t 2)), .int (nI (g 0)), .int (nI (g 1)), .int (nI y), .int (nI (x - 1)), .int (nI (g 3)), .int (nI (g 4)), .int (nI (g 5)), .ref (q 1), .ref (q 2), .ref (q 3), .ref (q 4)]))] H := hP
          have hD : va_D A [(q 1, .inl (k.1 0, 36, .inl (ta_e (ta_u (tg_mud g) (y * (t 0) + (x - 1)) (((tg_mud g) (y * (t 0) + (x - 1))) + 1))))), (q 2, .inl (k.1 0, 4, .inl (ta_e (tg_wal g)))), (q 3, .inl (k.1 0, 2, .inl (ta_e (tg_kne g)))), (q 4, .inl (k.1 2, 2, .inr (.inr (.inr (.inr (ta_dr (q 5) (q 8))))))), (q 5, .inr (1, [.ref (q 6), .ref (q 7), .int (nI (g 6))])), (q 6, .inl (k.1 0, 8, .inl (ta_e (X 0)))), (q 7, .inl (k.1 0, 8, .inl (ta_e (X 1)))), (q 8, .inr (1, [.ref (q 9), .ref (q 10), .int (nI (g 7))])), (q 9, .inl (k.1 0, 8, .inl (ta_e (X 2)))), (q 10, .inl (k.1 0, 8, .inl (ta_e (X 3)))), (q 0, .inr (0, [.int (nI (t 0)), .int (nI (t 1)), .int (nI (t 2)), .int (nI (g 0)), .int (nI (g 1)), .int (nI y), .int (nI (x - 1)), .int (nI (g 3)), .int (nI (g 4)), .int (nI (g 5)), .ref (q 1), .ref (q 2), .ref (q 3), .ref (q 4)]))] := hD
          have e : tg_step t g 3 = tg_mv t g y (x - 1) := by rw [tg_step3, ← hy, ← hx0]; first | exact if_pos (by omega) | exact if_neg (by omega)
          rw [e] at ret
          obtain ⟨e5, e6⟩ := tg_rc (w := t 0) (y := y) (x := x - 1) (by omega)
          have ecm : y * t 0 + (x - 1) = t 0 * y + (x - 1) := by rw [Nat.mul_comm]
          have hP : va_P D vwCl [(q 0, .inr (0, [.int (nI (t 0)), .int (nI (t 1)), .int (nI (t 2)), .int (nI (g 0)), .int (nI (g 1)), .int (nI y), .int (nI (x - 1)), .int (nI (g 3)), .int (nI (g 4)), .int (nI (g 5)), .ref (q 1), .ref (q 2), .ref (q 3), .ref (q 4)])), (q 1, .inl (k.1 0, 36, .inl (ta_e (ta_u (tg_mud g) (y * (t 0) + (x - 1)) (((tg_mud g) (y * (t 0) + (x - 1))) + 1))))), (q 2, .inl (k.1 0, 4, .inl (ta_e (tg_wal g)))), (q 3, .inl (k.1 0, 2, .inl (ta_e (tg_kne g)))), (q 4, .inl (k.1 2, 2, .inr (.inr (.inr (.inr (ta_dr (q 5) (q 8))))))), (q 5, .inr (1, [.ref (q 6), .ref (q 7), .int (nI (g 6))])), (q 6, .inl (k.1 0, 8, .inl (ta_e (X 0)))), (q 7, .inl (k.1 0, 8, .inl (ta_e (X 1)))), (q 8, .inr (1, [.ref (q 9), .ref (q 10), .int (nI (g 7))])), (q 9, .inl (k.1 0, 8, .inl (ta_e (X 2)))), (q 10, .inl (k.1 0, 8, .inl (ta_e (X 3))))] H := hP.sub [10, 0, 1, 2, 3, 4, 5, 6, 7, 8, 9] rfl
          have hD : va_D A [(q 0, .inr (0, [.int (nI (t 0)), .int (nI (t 1)), .int (nI (t 2)), .int (nI (g 0)), .int (nI (g 1)), .int (nI y), .int (nI (x - 1)), .int (nI (g 3)), .int (nI (g 4)), .int (nI (g 5)), .ref (q 1), .ref (q 2), .ref (q 3), .ref (q 4)])), (q 1, .inl (k.1 0, 36, .inl (ta_e (ta_u (tg_mud g) (y * (t 0) + (x - 1)) (((tg_mud g) (y * (t 0) + (x - 1))) + 1))))), (q 2, .inl (k.1 0, 4, .inl (ta_e (tg_wal g)))), (q 3, .inl (k.1 0, 2, .inl (ta_e (tg_kne g)))), (q 4, .inl (k.1 2, 2, .inr (.inr (.inr (.inr (ta_dr (q 5) (q 8))))))), (q 5, .inr (1, [.ref (q 6), .ref (q 7), .int (nI (g 6))])), (q 6, .inl (k.1 0, 8, .inl (ta_e (X 0)))), (q 7, .inl (k.1 0, 8, .inl (ta_e (X 1)))), (q 8, .inr (1, [.ref (q 9), .ref (q 10), .int (nI (g 7))])), (q 9, .inl (k.1 0, 8, .inl (ta_e (X 2)))), (q 10, .inl (k.1 0, 8, .inl (ta_e (X 3))))] := hD.sub [10, 0, 1, 2, 3, 4, 5, 6, 7, 8, 9] (by decide) rfl
          rw [ecm] at hP hD
          exact ret () dX0_step_88 trivial (dy_to (t := t) (g := tg_mv t g y (x - 1)) ⟨rfl, rfl, rfl, (tg_mv_k (by omega) (by omega)).symm, (tg_mv_k (by omega) (by omega)).symm, (by rw [tg_mv_2]; exact e5.symm), (by rw [tg_mv_2]; exact e6.symm), (tg_mv_k (by omega) (by omega)).symm, (tg_mv_k (by omega) (by omega)).symm, (tg_mv_k (by omega) (by omega)).symm, (tg_mv_k (by omega) (by omega)).symm, (tg_mv_k (by omega) (by omega)).symm⟩ (fun j hj => tg_mv_m.symm) (fun j hj => (tg_mv_k (by omega) (by omega)).symm) (fun j hj => (tg_mv_k (by omega) (by omega)).symm) hP) (ta_De hD rfl) hS
        · exfalso; omega
