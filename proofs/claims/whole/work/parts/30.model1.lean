theorem ta_uu (f : Nat → Nat) (k v w : Nat) : ta_u (ta_u f k v) k w = ta_u f k w := by
  funext j
  unfold ta_u
  split <;> rfl
theorem ta_cpy0 (g : Nat → Nat) (sp dp : Nat) : va_cpy g g sp dp 0 = g := by
  funext j
  exact pk_cpy_out (by omega)
theorem ta_cpys (g : Nat → Nat) (a i : Nat) : ta_u (va_cpy g g (9 + 8 * a) (8 + 8 * a) i) (8 + 8 * a + i) (va_cpy g g (9 + 8 * a) (8 + 8 * a) i (8 + 8 * a + (i + 1))) = va_cpy g g (9 + 8 * a) (8 + 8 * a) (i + 1) := by
  funext j
  rw [pk_cpy_out (j := 8 + 8 * a + (i + 1)) (by omega)]
  by_cases h : j = 8 + 8 * a + i
  · rw [h, ta_us, pk_cpy_in (by omega) (by omega)]
    congr 1
    omega
  · rw [ta_un h]
    by_cases h2 : 8 + 8 * a ≤ j ∧ j < 8 + 8 * a + i
    · rw [pk_cpy_in h2.1 h2.2, pk_cpy_in h2.1 (by omega)]
    · rw [pk_cpy_out (by omega), pk_cpy_out (by omega)]
def tg_ord (g : Nat → Nat) (a c : Nat) : Nat → Nat := ta_u (ta_u g (8 + 8 * a + g (6 + a)) c) (6 + a) (g (6 + a) + 1)
theorem ta_fill {f h : Nat → Nat} {i : Nat} (h2 : ∀ j, j < i → f j = h j) : ∀ j, j < i + 1 → ta_u f i (h i) j = h j := by
  intro j hj
  by_cases e : j = i
  · rw [e, ta_us]
  · rw [ta_un e]; exact h2 j (by omega)
set_option maxHeartbeats 4000000 in
set_option maxRecDepth 100000 in
theorem c_X8_in (l : Launch) (D : va_G) (k : ta_C) (v : Nat) (lo : Nat) (hi : Nat) (hb1 : v < 2147483648) (hb2 : lo < 2147483648) (hb3 : hi < 2147483648) : ta_Mi (S := Unit) l D k yX8_in cX8_in 3 .boolean 0 0 [.int (nI v), .int (nI lo), .int (nI hi)] [] (fun r _ => ((lo ≤ v ∧ v ≤ hi) ∧ r = nI 1) ∨ (¬ (lo ≤ v ∧ v ≤ hi) ∧ r = nI 0)) (fun u => []) := by
  refine ta_enter_i (by decide) (Nat.le_of_ble_eq_true rfl) ?_
  intro p e s m below meth c A ls Q C ret hP hD hS hl
  have C : ta_At p l D k s m ([.int (nI v), .int (nI lo), .int (nI hi)] : List Value).toArray c RX8 cX8_in 3 A := C
  have hx := C.1.1
  have hb := C.1.2.1
  have hl : lv_has ls 3 [(0, .int (nI v)), (1, .int (nI lo)), (2, .int (nI hi))] := hl
  obtain ⟨H, hH⟩ : ∃ H, H = s.heap := ⟨_, rfl⟩
  obtain ⟨locs, hlocs⟩ : ∃ q : List Loc, q = [] := ⟨_, rfl⟩
  have hP : va_P D vwCl [] H := by rw [hH]; exact hP
  have hS : va_S A s.heap H locs := by rw [hH, hlocs]; exact hS
  rw [← hlocs]
  suffices hgoal : W p l e ({ frames := 0, cells := 0, slots := 0, locals := 0 }) s m ([.int (nI v), .int (nI lo), .int (nI hi)] : List Value).toArray below meth c H locs 0 0 Q (F0 m 0 ls []) by rw [hH] at hgoal; exact hgoal
  clear hH hlocs
  refine lv_iload_n hx hb dX8_in_0 rfl (lv_at hl 0 rfl) ?_
  refine lv_iload_n hx hb dX8_in_1 rfl (lv_at hl 1 rfl) ?_
  refine ta_clt C (a := v) (b := lo) (tgt := 14) (by omega) (by omega) dX8_in_2 (by decide) (fun c1 => ?_) (fun c1 => ?_)
  · refine ta_iconst C 0 dX8_in_14 (by decide) ?_
    exact ret _ () dX8_in_15 (by decide) (Or.inr ⟨by omega, rfl⟩) hP hD hS
  · refine lv_iload_n hx hb dX8_in_5 rfl (lv_at hl 0 rfl) ?_
    refine lv_iload_n hx hb dX8_in_6 rfl (lv_at hl 2 rfl) ?_
    refine ta_cgt C (a := v) (b := hi) (tgt := 14) (by omega) (by omega) dX8_in_7 (by decide) (fun c2 => ?_) (fun c2 => ?_)
    · refine ta_iconst C 0 dX8_in_14 (by decide) ?_
      exact ret _ () dX8_in_15 (by decide) (Or.inr ⟨by omega, rfl⟩) hP hD hS
    · refine ta_iconst C 1 dX8_in_10 (by decide) ?_
      refine lv_goto (tgt := 15) hx hb dX8_in_11 (by decide) ?_
      exact ret _ () dX8_in_15 (by decide) (Or.inl ⟨by omega, rfl⟩) hP hD hS

set_option maxHeartbeats 4000000 in
set_option maxRecDepth 100000 in
theorem c_X8_in_neg (l : Launch) (D : va_G) (k : ta_C) (lo : Nat) (hi : Nat) (hb2 : lo < 2147483648) : ta_Mi (S := Unit) l D k yX8_in cX8_in 3 .boolean 0 0 [.int (nI 4294967295), .int (nI lo), .int (nI hi)] [] (fun r _ => r = nI 0) (fun u => []) := by
  refine ta_enter_i (by decide) (Nat.le_of_ble_eq_true rfl) ?_
  intro p e s m below meth c A ls Q C ret hP hD hS hl
  have C : ta_At p l D k s m ([.int (nI 4294967295), .int (nI lo), .int (nI hi)] : List Value).toArray c RX8 cX8_in 3 A := C
  have hx := C.1.1
  have hb := C.1.2.1
  have hl : lv_has ls 3 [(0, .int (nI 4294967295)), (1, .int (nI lo)), (2, .int (nI hi))] := hl
  obtain ⟨H, hH⟩ : ∃ H, H = s.heap := ⟨_, rfl⟩
  obtain ⟨locs, hlocs⟩ : ∃ q : List Loc, q = [] := ⟨_, rfl⟩
  have hP : va_P D vwCl [] H := by rw [hH]; exact hP
  have hS : va_S A s.heap H locs := by rw [hH, hlocs]; exact hS
  rw [← hlocs]
  suffices hgoal : W p l e ({ frames := 0, cells := 0, slots := 0, locals := 0 }) s m ([.int (nI 4294967295), .int (nI lo), .int (nI hi)] : List Value).toArray below meth c H locs 0 0 Q (F0 m 0 ls []) by rw [hH] at hgoal; exact hgoal
  clear hH hlocs
  refine lv_iload_n hx hb dX8_in_0 rfl (lv_at hl 0 rfl) ?_
  refine lv_iload_n hx hb dX8_in_1 rfl (lv_at hl 1 rfl) ?_
  refine lv_icmp_lt (tgt := 14) hx hb dX8_in_2 (by decide) (fun _ => ?_) (fun h => absurd (ta_neg1 hb2) h)
  refine ta_iconst C 0 dX8_in_14 (by decide) ?_
  exact ret _ () dX8_in_15 (by decide) rfl hP hD hS

set_option maxHeartbeats 4000000 in
set_option maxRecDepth 100000 in
theorem c_X8_in_r (l : Launch) (D : va_G) (k : ta_C) (v : Int32) (lo : Nat) (hi : Nat) (hb2 : lo < 2147483648) (hb3 : hi < 2147483648) : ta_Mi (S := Unit) l D k yX8_in cX8_in 3 .boolean 0 0 [.int v, .int (nI lo), .int (nI hi)] [] (fun r _ => (∃ m, (lo ≤ m ∧ m ≤ hi) ∧ v = nI m ∧ r = nI 1) ∨ ((∀ m, lo ≤ m → m ≤ hi → v ≠ nI m) ∧ r = nI 0)) (fun u => []) := by
  refine ta_enter_i (by decide) (Nat.le_of_ble_eq_true rfl) ?_
  intro p e s m below meth c A ls Q C ret hP hD hS hl
  have C : ta_At p l D k s m ([.int v, .int (nI lo), .int (nI hi)] : List Value).toArray c RX8 cX8_in 3 A := C
  have hx := C.1.1
  have hb := C.1.2.1
  have hl : lv_has ls 3 [(0, .int v), (1, .int (nI lo)), (2, .int (nI hi))] := hl
  obtain ⟨H, hH⟩ : ∃ H, H = s.heap := ⟨_, rfl⟩
  obtain ⟨locs, hlocs⟩ : ∃ q : List Loc, q = [] := ⟨_, rfl⟩
  have hP : va_P D vwCl [] H := by rw [hH]; exact hP
  have hS : va_S A s.heap H locs := by rw [hH, hlocs]; exact hS
  rw [← hlocs]
  suffices hgoal : W p l e ({ frames := 0, cells := 0, slots := 0, locals := 0 }) s m ([.int v, .int (nI lo), .int (nI hi)] : List Value).toArray below meth c H locs 0 0 Q (F0 m 0 ls []) by rw [hH] at hgoal; exact hgoal
  clear hH hlocs
  refine lv_iload_n hx hb dX8_in_0 rfl (lv_at hl 0 rfl) ?_
  refine lv_iload_n hx hb dX8_in_1 rfl (lv_at hl 1 rfl) ?_
  refine lv_icmp_lt (tgt := 14) hx hb dX8_in_2 (by decide) (fun c1 => ?_) (fun c1 => ?_)
  · have hfin : ∀ m, lo ≤ m → m ≤ hi → v ≠ nI m := fun m h1 h2 e => absurd (e ▸ c1) (nI_nlt h1 (by omega))
    refine ta_iconst C 0 dX8_in_14 (by decide) ?_
    exact ret _ () dX8_in_15 (by decide) (Or.inr ⟨hfin, rfl⟩) hP hD hS
  · refine lv_iload_n hx hb dX8_in_5 rfl (lv_at hl 0 rfl) ?_
    refine lv_iload_n hx hb dX8_in_6 rfl (lv_at hl 2 rfl) ?_
    refine lv_icmp_gt (tgt := 14) hx hb dX8_in_7 (by decide) (fun c2 => ?_) (fun c2 => ?_)
    · have hfin : ∀ m, lo ≤ m → m ≤ hi → v ≠ nI m := fun m h1 h2 e => absurd (e ▸ c2) (nI_nlt h2 (by omega))
      refine ta_iconst C 0 dX8_in_14 (by decide) ?_
      exact ret _ () dX8_in_15 (by decide) (Or.inr ⟨hfin, rfl⟩) hP hD hS
    · have hv0 : ¬ v < 0 := fun h => c1 (Int32.lt_of_lt_of_le h (nI_pos' hb2))
      obtain ⟨j, hj, rfl⟩ := nI_of hv0
      have hfin : lo ≤ j ∧ j ≤ hi := ⟨Nat.le_of_not_lt (fun h => c1 (nI_lt h hb2)), Nat.le_of_not_lt (fun h => c2 (nI_lt h hj))⟩
      refine ta_iconst C 1 dX8_in_10 (by decide) ?_
      refine lv_goto (tgt := 15) hx hb dX8_in_11 (by decide) ?_
      exact ret _ () dX8_in_15 (by decide) (Or.inl ⟨j, hfin, rfl, rfl⟩) hP hD hS

set_option maxHeartbeats 4000000 in
set_option maxRecDepth 100000 in
theorem c_X8_cells (l : Launch) (D : va_G) (k : ta_C) (z : Nat → Nat) (ty : Nat) (kn : Nat) (no : Nat) (at_ : Nat) (so : Nat) (sr : Nat) (va : Nat) (t : Nat → Nat) : ta_Mi (S := Unit) l D k yX8_cells cX8_cells 1 .int 0 0 [.ref (z 0)] [(z 0, .inr (8, [.ref (z 1), .int (nI ty), .ref (z 2), .ref (z 3), .ref (z 4), .ref (z 5), .int (nI kn), .ref (z 6), .ref (z 7), .ref (z 8), .int (nI no), .int (nI at_), .int (nI so), .int (nI sr), .int (nI va), .ref (z 9)])), (z 2, .inl (k.1 0, 23, .inl (ta_e t)))] (fun r _ => r = nI (t 0 * t 1)) (fun u => [(z 0, .inr (8, [.ref (z 1), .int (nI ty), .ref (z 2), .ref (z 3), .ref (z 4), .ref (z 5), .int (nI kn), .ref (z 6), .ref (z 7), .ref (z 8), .int (nI no), .int (nI at_), .int (nI so), .int (nI sr), .int (nI va), .ref (z 9)])), (z 2, .inl (k.1 0, 23, .inl (ta_e t)))]) := by
  refine ta_enter_i (by decide) (Nat.le_of_ble_eq_true rfl) ?_
  intro p e s m below meth c A ls Q C ret hP hD hS hl
  have C : ta_At p l D k s m ([.ref (z 0)] : List Value).toArray c RX8 cX8_cells 1 A := C
  have hx := C.1.1
  have hb := C.1.2.1
  have hl : lv_has ls 1 [(0, .ref (z 0))] := hl
  obtain ⟨H, hH⟩ : ∃ H, H = s.heap := ⟨_, rfl⟩
  obtain ⟨locs, hlocs⟩ : ∃ q : List Loc, q = [] := ⟨_, rfl⟩
  have hP : va_P D vwCl [(z 0, .inr (8, [.ref (z 1), .int (nI ty), .ref (z 2), .ref (z 3), .ref (z 4), .ref (z 5), .int (nI kn), .ref (z 6), .ref (z 7), .ref (z 8), .int (nI no), .int (nI at_), .int (nI so), .int (nI sr), .int (nI va), .ref (z 9)])), (z 2, .inl (k.1 0, 23, .inl (ta_e t)))] H := by rw [hH]; exact hP
  have hS : va_S A s.heap H locs := by rw [hH, hlocs]; exact hS
  rw [← hlocs]
  suffices hgoal : W p l e ({ frames := 0, cells := 0, slots := 0, locals := 0 }) s m ([.ref (z 0)] : List Value).toArray below meth c H locs 0 0 Q (F0 m 0 ls []) by rw [hH] at hgoal; exact hgoal
  clear hH hlocs
  refine lv_aload_n hx hb dX8_cells_0 rfl (lv_at hl 0 rfl) ?_
  refine ta_get C hP 0 inlX8 rfl rfl 2 (by decide) tw_126 rfl dX8_cells_1 ?_
  refine ta_iconst C 0 dX8_cells_4 (by decide) ?_
  refine ta_iald C hP 1 rfl (i := 0) (by omega) dX8_cells_5 ?_
  refine lv_aload_n hx hb dX8_cells_6 rfl (lv_at hl 0 rfl) ?_
  refine ta_get C hP 0 inlX8 rfl rfl 2 (by decide) tw_126 rfl dX8_cells_7 ?_
  refine ta_iconst C 1 dX8_cells_10 (by decide) ?_
  refine ta_iald C hP 1 rfl (i := 1) (by omega) dX8_cells_11 ?_
  refine ta_imul C (a := t 0) (b := t 1) dX8_cells_12 ?_
  exact ret (nI ((t 0) * (t 1))) () dX8_cells_13 rfl rfl hP hD hS

set_option maxHeartbeats 4000000 in
set_option maxRecDepth 100000 in
theorem c_X8_next (l : Launch) (D : va_G) (k : ta_C) (z : Nat → Nat) (ty : Nat) (kn : Nat) (no : Nat) (at_ : Nat) (so : Nat) (sr : Nat) (va : Nat) (a : Nat) (j : Nat) : ta_Mi (S := Unit) l D k yX8_next cX8_next 3 .int 0 0 [.ref (z 0), .int (nI a), .int (nI j)] [(z 0, .inr (8, [.ref (z 1), .int (nI ty), .ref (z 2), .ref (z 3), .ref (z 4), .ref (z 5), .int (nI kn), .ref (z 6), .ref (z 7), .ref (z 8), .int (nI no), .int (nI at_), .int (nI so), .int (nI sr), .int (nI va), .ref (z 9)]))] (fun r _ => r = nI (8 + 8 * a + j)) (fun u => [(z 0, .inr (8, [.ref (z 1), .int (nI ty), .ref (z 2), .ref (z 3), .ref (z 4), .ref (z 5), .int (nI kn), .ref (z 6), .ref (z 7), .ref (z 8), .int (nI no), .int (nI at_), .int (nI so), .int (nI sr), .int (nI va), .ref (z 9)]))]) := by
  refine ta_enter_i (by decide) (Nat.le_of_ble_eq_true rfl) ?_
  intro p e s m below meth c A ls Q C ret hP hD hS hl
  have C : ta_At p l D k s m ([.ref (z 0), .int (nI a), .int (nI j)] : List Value).toArray c RX8 cX8_next 3 A := C
  have hx := C.1.1
  have hb := C.1.2.1
  have hl : lv_has ls 3 [(0, .ref (z 0)), (1, .int (nI a)), (2, .int (nI j))] := hl
  obtain ⟨H, hH⟩ : ∃ H, H = s.heap := ⟨_, rfl⟩
  obtain ⟨locs, hlocs⟩ : ∃ q : List Loc, q = [] := ⟨_, rfl⟩
  have hP : va_P D vwCl [(z 0, .inr (8, [.ref (z 1), .int (nI ty), .ref (z 2), .ref (z 3), .ref (z 4), .ref (z 5), .int (nI kn), .ref (z 6), .ref (z 7), .ref (z 8), .int (nI no), .int (nI at_), .int (nI so), .int (nI sr), .int (nI va), .ref (z 9)]))] H := by rw [hH]; exact hP
  have hS : va_S A s.heap H locs := by rw [hH, hlocs]; exact hS
  rw [← hlocs]
  suffices hgoal : W p l e ({ frames := 0, cells := 0, slots := 0, locals := 0 }) s m ([.ref (z 0), .int (nI a), .int (nI j)] : List Value).toArray below meth c H locs 0 0 Q (F0 m 0 ls []) by rw [hH] at hgoal; exact hgoal
  clear hH hlocs
  refine ta_bipush C 8 dX8_next_0 (by decide) ?_
  refine ta_bipush C 8 dX8_next_2 (by decide) ?_
  refine lv_iload_n hx hb dX8_next_4 rfl (lv_at hl 1 rfl) ?_
  refine ta_imul C (a := 8) (b := a) dX8_next_5 ?_
  refine ta_iadd C (a := 8) (b := 8 * a) dX8_next_6 ?_
  refine lv_iload_n hx hb dX8_next_7 rfl (lv_at hl 2 rfl) ?_
  refine ta_iadd C (a := 8 + (8 * a)) (b := j) dX8_next_8 ?_
  exact ret (nI ((8 + (8 * a)) + j)) () dX8_next_9 rfl rfl hP hD hS

set_option maxHeartbeats 4000000 in
set_option maxRecDepth 100000 in
theorem c_X8_steps (l : Launch) (D : va_G) (k : ta_C) (z : Nat → Nat) (ty : Nat) (kn : Nat) (no : Nat) (at_ : Nat) (so : Nat) (sr : Nat) (va : Nat) (t : Nat → Nat) (g : Nat → Nat) (w : Nat) (hok : tg_ok t g) (hw : w < 4) : ta_Mv (S := Unit) l D k yX8_steps cX8_steps 5 1 40 [.ref (z 0), .int (nI w)] [(z 0, .inr (8, [.ref (z 1), .int (nI ty), .ref (z 2), .ref (z 3), .ref (z 4), .ref (z 5), .int (nI kn), .ref (z 6), .ref (z 7), .ref (z 8), .int (nI no), .int (nI at_), .int (nI so), .int (nI sr), .int (nI va), .ref (z 9)])), (z 2, .inl (k.1 0, 23, .inl (ta_e t))), (z 4, .inl (k.1 0, 66, .inl (ta_e g)))] (fun _ => True) (fun u => [(z 0, .inr (8, [.ref (z 1), .int (nI ty), .ref (z 2), .ref (z 3), .ref (z 4), .ref (z 5), .int (nI kn), .ref (z 6), .ref (z 7), .ref (z 8), .int (nI no), .int (nI at_), .int (nI so), .int (nI sr), .int (nI va), .ref (z 9)])), (z 2, .inl (k.1 0, 23, .inl (ta_e t))), (z 4, .inl (k.1 0, 66, .inl (ta_e (tg_step t g w))))]) := by
  refine ta_enter_v (by decide) (Nat.le_of_ble_eq_true rfl) ?_
  intro p e s m below meth c A ls Q C ret hP hD hS hl
  have C : ta_At p l D k s m ([.ref (z 0), .int (nI w)] : List Value).toArray c RX8 cX8_steps 5 A := C
  have hx := C.1.1
  have hb := C.1.2.1
  have hl : lv_has ls 5 [(0, .ref (z 0)), (1, .int (nI w))] := hl
  obtain ⟨H, hH⟩ : ∃ H, H = s.heap := ⟨_, rfl⟩
  obtain ⟨locs, hlocs⟩ : ∃ q : List Loc, q = [] := ⟨_, rfl⟩
  have hP : va_P D vwCl [(z 0, .inr (8, [.ref (z 1), .int (nI ty), .ref (z 2), .ref (z 3), .ref (z 4), .ref (z 5), .int (nI kn), .ref (z 6), .ref (z 7), .ref (z 8), .int (nI no), .int (nI at_), .int (nI so), .int (nI sr), .int (nI va), .ref (z 9)])), (z 2, .inl (k.1 0, 23, .inl (ta_e t))), (z 4, .inl (k.1 0, 66, .inl (ta_e g)))] H := by rw [hH]; exact hP
  have hS : va_S A s.heap H locs := by rw [hH, hlocs]; exact hS
  rw [← hlocs]
  suffices hgoal : W p l e ({ frames := 1, cells := 0, slots := 0, locals := 40 }) s m ([.ref (z 0), .int (nI w)] : List Value).toArray below meth c H locs 0 0 Q (F0 m 0 ls []) by rw [hH] at hgoal; exact hgoal
  clear hH hlocs
  obtain ⟨⟨a1, a2, a3, a4, -, -⟩, -, b2, -⟩ := hok
  have hg2 : g 2 < 36 := Nat.lt_of_lt_of_le b2 (tg_36 a2 a4)
  obtain ⟨y1, x1, -⟩ := tg_div (by omega) b2
  obtain ⟨y0, hy0⟩ : ∃ y, y = g 2 / t 0 := ⟨_, rfl⟩
  obtain ⟨x0, hx0⟩ : ∃ x, x = g 2 % t 0 := ⟨_, rfl⟩
  rw [← hy0] at y1
  rw [← hx0] at x1
  rcases (show w = 0 ∨ w = 1 ∨ w = 2 ∨ w = 3 by omega) with rfl | rfl | rfl | rfl
  · refine lv_aload_n hx hb dX8_steps_0 rfl (lv_at hl 0 rfl) ?_
    refine ta_get C hP 0 inlX8 rfl rfl 2 (by decide) tw_126 rfl dX8_steps_1 ?_
    refine ta_iconst C 0 dX8_steps_4 (by decide) ?_
    refine ta_iald C hP 1 rfl (i := 0) (by omega) dX8_steps_5 ?_
    refine lv_istore_n (lv' := [(2, .int (nI (t 0))), (0, .ref (z 0)), (1, .int (nI 0))]) hx hb dX8_steps_6 rfl hl (by decide) rfl (fun ls hl => ?_)
    refine lv_aload_n hx hb dX8_steps_7 rfl (lv_at hl 1 rfl) ?_
    refine ta_get C hP 0 inlX8 rfl rfl 4 (by decide) tw_128 rfl dX8_steps_8 ?_
    refine ta_iconst C 2 dX8_steps_11 (by decide) ?_
    refine ta_iald C hP 2 rfl (i := 2) (by omega) dX8_steps_12 ?_
    refine lv_iload_n hx hb dX8_steps_13 rfl (lv_at hl 0 rfl) ?_
    refine ta_irem C (a := g 2) (b := t 0) (by omega) (by omega) (by omega) dX8_steps_14 ?_
    refine ta_nv (y := x0) hx0.symm ?_
    refine lv_iload_n hx hb dX8_steps_15 rfl (lv_at hl 2 rfl) ?_
    refine ta_iconst C 1 dX8_steps_16 (by decide) ?_
    refine lv_icmp_ne (tgt := 24) hx hb dX8_steps_17 (by decide) (fun c1 => ?_) (fun c1 => ?_)
    · refine lv_iload_n hx hb dX8_steps_24 rfl (lv_at hl 2 rfl) ?_
      refine ta_iconst C 3 dX8_steps_25 (by decide) ?_
      refine lv_icmp_ne (tgt := 33) hx hb dX8_steps_26 (by decide) (fun c2 => ?_) (fun c2 => ?_)
      · refine ta_iconst C 0 dX8_steps_33 (by decide) ?_
        refine ta_iadd C (a := x0) (b := 0) dX8_steps_34 ?_
        refine ta_nv (y := x0) (Nat.add_zero _) ?_
        refine lv_istore_n (lv' := [(3, .int (nI x0)), (2, .int (nI (t 0))), (0, .ref (z 0)), (1, .int (nI 0))]) hx hb dX8_steps_35 rfl hl (by decide) rfl (fun ls hl => ?_)
        refine lv_aload_n hx hb dX8_steps_36 rfl (lv_at hl 2 rfl) ?_
        refine ta_get C hP 0 inlX8 rfl rfl 4 (by decide) tw_128 rfl dX8_steps_37 ?_
        refine ta_iconst C 2 dX8_steps_40 (by decide) ?_
        refine ta_iald C hP 2 rfl (i := 2) (by omega) dX8_steps_41 ?_
        refine lv_iload_n hx hb dX8_steps_42 rfl (lv_at hl 1 rfl) ?_
        refine ta_idiv C (a := g 2) (b := t 0) (by omega) (by omega) (by omega) dX8_steps_43 ?_
        refine ta_nv (y := y0) hy0.symm ?_
        refine lv_iload_n hx hb dX8_steps_44 rfl (lv_at hl 3 rfl) ?_
        refine ta_iconst C 2 dX8_steps_45 (by decide) ?_
        refine lv_icmp_ne (tgt := 53) hx hb dX8_steps_46 (by decide) (fun c3 => ?_) (fun c3 => ?_)
        · refine lv_iload_n hx hb dX8_steps_53 rfl (lv_at hl 3 rfl) ?_
          refine lv_if_ne (tgt := 61) hx hb dX8_steps_54 (by decide) (fun c4 => ?_) (fun c4 => ?_)
          · exact absurd c4 (by decide)
          · refine ta_iconst C 4294967295 dX8_steps_57 (by decide) ?_
            refine lv_goto (tgt := 62) hx hb dX8_steps_58 (by decide) ?_
            refine ta_iadd C (a := y0) (b := 4294967295) dX8_steps_62 ?_
            rcases Nat.eq_zero_or_pos y0 with h0 | h0
            · refine ta_nv (y := 4294967295) (by omega) ?_
              refine lv_istore (lv' := [(4, .int (nI 4294967295)), (3, .int (nI x0)), (2, .int (nI (t 0))), (0, .ref (z 0)), (1, .int (nI 0))]) hx hb dX8_steps_63 hl (by decide) rfl (fun ls hl => ?_)
              refine lv_iload_n hx hb dX8_steps_65 rfl (lv_at hl 1 rfl) ?_
              refine ta_iconst C 0 dX8_steps_66 (by decide) ?_
              refine lv_iload_n hx hb dX8_steps_67 rfl (lv_at hl 2 rfl) ?_
              refine ta_iconst C 1 dX8_steps_68 (by decide) ?_
              refine ta_isub C (a := t 0) (b := 1) (by omega) dX8_steps_69 ?_
              refine ta_callSi (As := [.int (nI x0), .int (nI 0), .int (nI ((t 0) - 1))]) (rest0 := []) (Wr := [(z 0, .inr (8, [.ref (z 1), .int (nI ty), .ref (z 2), .ref (z 3), .ref (z 4), .ref (z 5), .int (nI kn), .ref (z 6), .ref (z 7), .ref (z 8), .int (nI no), .int (nI at_), .int (nI so), .int (nI sr), .int (nI va), .ref (z 9)])), (z 2, .inl (k.1 0, 23, .inl (ta_e t))), (z 4, .inl (k.1 0, 66, .inl (ta_e g)))]) C hP hD hS (c_X8_in l D k x0 0 ((t 0) - 1) (by omega) (by omega) (by omega)) [] [0, 1, 2] rfl rfl (by decide) (by decide) (by decide) tw_159 tw_157 tw_5 tw_158 ⟨by decide, by decide, rfl⟩ ⟨Nat.le_of_ble_eq_true rfl, Nat.le_of_ble_eq_true rfl⟩ ⟨Nat.zero_le _, Nat.zero_le _⟩ hl.1 rfl (Nat.le_of_ble_eq_true rfl) dX8_steps_70 (fun r5 u6 H locs h7 hP hD hS => ?_)
              rcases h7 with h0 | h0
              · obtain ⟨hi8, rfl⟩ := h0
                have hP : va_P D vwCl [(z 0, .inr (8, [.ref (z 1), .int (nI ty), .ref (z 2), .ref (z 3), .ref (z 4), .ref (z 5), .int (nI kn), .ref (z 6), .ref (z 7), .ref (z 8), .int (nI no), .int (nI at_), .int (nI so), .int (nI sr), .int (nI va), .ref (z 9)])), (z 2, .inl (k.1 0, 23, .inl (ta_e t))), (z 4, .inl (k.1 0, 66, .inl (ta_e g)))] H := hP
                have hD : va_D A [(z 0, .inr (8, [.ref (z 1), .int (nI ty), .ref (z 2), .ref (z 3), .ref (z 4), .ref (z 5), .int (nI kn), .ref (z 6), .ref (z 7), .ref (z 8), .int (nI no), .int (nI at_), .int (nI so), .int (nI sr), .int (nI va), .ref (z 9)])), (z 2, .inl (k.1 0, 23, .inl (ta_e t))), (z 4, .inl (k.1 0, 66, .inl (ta_e g)))] := hD
                refine lv_if_eq (tgt := 126) hx hb dX8_steps_73 (by decide) (fun c9 => ?_) (fun c9 => ?_)
                · exact absurd c9 (by decide)
                · refine lv_iload hx hb dX8_steps_76 (lv_at hl 0 rfl) ?_
                  refine ta_iconst C 0 dX8_steps_78 (by decide) ?_
                  refine lv_aload_n hx hb dX8_steps_79 rfl (lv_at hl 3 rfl) ?_
                  refine ta_get C hP 0 inlX8 rfl rfl 2 (by decide) tw_126 rfl dX8_steps_80 ?_
                  refine ta_iconst C 1 dX8_steps_83 (by decide) ?_
                  refine ta_iald C hP 1 rfl (i := 1) (by omega) dX8_steps_84 ?_
                  refine ta_iconst C 1 dX8_steps_85 (by decide) ?_
                  refine ta_isub C (a := t 1) (b := 1) (by omega) dX8_steps_86 ?_
                  refine ta_callSi (As := [.int (nI 4294967295), .int (nI 0), .int (nI ((t 1) - 1))]) (rest0 := []) (Wr := [(z 0, .inr (8, [.ref (z 1), .int (nI ty), .ref (z 2), .ref (z 3), .ref (z 4), .ref (z 5), .int (nI kn), .ref (z 6), .ref (z 7), .ref (z 8), .int (nI no), .int (nI at_), .int (nI so), .int (nI sr), .int (nI va), .ref (z 9)])), (z 2, .inl (k.1 0, 23, .inl (ta_e t))), (z 4, .inl (k.1 0, 66, .inl (ta_e g)))]) C hP hD hS (c_X8_in_neg l D k 0 ((t 1) - 1) (by omega)) [] [0, 1, 2] rfl rfl (by decide) (by decide) (by decide) tw_159 tw_157 tw_5 tw_158 ⟨by decide, by decide, rfl⟩ ⟨Nat.le_of_ble_eq_true rfl, Nat.le_of_ble_eq_true rfl⟩ ⟨Nat.zero_le _, Nat.zero_le _⟩ hl.1 rfl (Nat.le_of_ble_eq_true rfl) dX8_steps_87 (fun r10 u11 H locs h12 hP hD hS => ?_)
                  obtain rfl := h12
                  have hP : va_P D vwCl [(z 0, .inr (8, [.ref (z 1), .int (nI ty), .ref (z 2), .ref (z 3), .ref (z 4), .ref (z 5), .int (nI kn), .ref (z 6), .ref (z 7), .ref (z 8), .int (nI no), .int (nI at_), .int (nI so), .int (nI sr), .int (nI va), .ref (z 9)])), (z 2, .inl (k.1 0, 23, .inl (ta_e t))), (z 4, .inl (k.1 0, 66, .inl (ta_e g)))] H := hP
                  have hD : va_D A [(z 0, .inr (8, [.ref (z 1), .int (nI ty), .ref (z 2), .ref (z 3), .ref (z 4), .ref (z 5), .int (nI kn), .ref (z 6), .ref (z 7), .ref (z 8), .int (nI no), .int (nI at_), .int (nI so), .int (nI sr), .int (nI va), .ref (z 9)])), (z 2, .inl (k.1 0, 23, .inl (ta_e t))), (z 4, .inl (k.1 0, 66, .inl (ta_e g)))] := hD
                  refine lv_if_eq (tgt := 126) hx hb dX8_steps_90 (by decide) (fun c13 => ?_) (fun c13 => ?_)
                  · refine lv_aload_n hx hb dX8_steps_126 rfl (lv_at hl 3 rfl) ?_
                    refine ta_get C hP 0 inlX8 rfl rfl 4 (by decide) tw_128 rfl dX8_steps_127 ?_
                    refine ta_bipush C 26 dX8_steps_130 (by decide) ?_
                    refine lv_iload_n hx hb dX8_steps_132 rfl (lv_at hl 4 rfl) ?_
                    refine ta_iadd C (a := 26) (b := 0) dX8_steps_133 ?_
                    refine lv_dup2_11 hx hb dX8_steps_134 rfl rfl ?_
                    refine ta_iald C hP 2 rfl (i := 26) (by omega) dX8_steps_135 ?_
                    refine ta_iconst C 1 dX8_steps_136 (by decide) ?_
                    refine ta_iadd C (a := g 26) (b := 1) dX8_steps_137 ?_
                    refine ta_iast C hP hD hS 2 rfl (i := 26) (v := (g 26) + 1) (by omega) dX8_steps_138 (fun H locs hP hD hS => ?_)
                    have hP : va_P D vwCl [(z 0, .inr (8, [.ref (z 1), .int (nI ty), .ref (z 2), .ref (z 3), .ref (z 4), .ref (z 5), .int (nI kn), .ref (z 6), .ref (z 7), .ref (z 8), .int (nI no), .int (nI at_), .int (nI so), .int (nI sr), .int (nI va), .ref (z 9)])), (z 2, .inl (k.1 0, 23, .inl (ta_e t))), (z 4, .inl (k.1 0, 66, .inl (ta_e (ta_u g 26 ((g 26) + 1)))))] H := hP
                    have hD : va_D A [(z 0, .inr (8, [.ref (z 1), .int (nI ty), .ref (z 2), .ref (z 3), .ref (z 4), .ref (z 5), .int (nI kn), .ref (z 6), .ref (z 7), .ref (z 8), .int (nI no), .int (nI at_), .int (nI so), .int (nI sr), .int (nI va), .ref (z 9)])), (z 2, .inl (k.1 0, 23, .inl (ta_e t))), (z 4, .inl (k.1 0, 66, .inl (ta_e (ta_u g 26 ((g 26) + 1)))))] := hD
                    have e : ta_u g 26 ((g 26) + 1) = tg_step t g 0 := by
                      rw [tg_step0, ← hy0, ← hx0]
                      first | exact (if_pos (by omega)).symm | exact (if_neg (by omega)).symm
                    rw [e] at hP hD
                    exact ret () dX8_steps_139 trivial (hP.sub [0, 1, 2] rfl) (hD.sub [0, 1, 2] (by decide) rfl) hS
                  · exact absurd c13 (by decide)
              · obtain ⟨hi14, rfl⟩ := h0
                have hP : va_P D vwCl [(z 0, .inr (8, [.ref (z 1), .int (nI ty), .ref (z 2), .ref (z 3), .ref (z 4), .ref (z 5), .int (nI kn), .ref (z 6), .ref (z 7), .ref (z 8), .int (nI no), .int (nI at_), .int (nI so), .int (nI sr), .int (nI va), .ref (z 9)])), (z 2, .inl (k.1 0, 23, .inl (ta_e t))), (z 4, .inl (k.1 0, 66, .inl (ta_e g)))] H := hP
                have hD : va_D A [(z 0, .inr (8, [.ref (z 1), .int (nI ty), .ref (z 2), .ref (z 3), .ref (z 4), .ref (z 5), .int (nI kn), .ref (z 6), .ref (z 7), .ref (z 8), .int (nI no), .int (nI at_), .int (nI so), .int (nI sr), .int (nI va), .ref (z 9)])), (z 2, .inl (k.1 0, 23, .inl (ta_e t))), (z 4, .inl (k.1 0, 66, .inl (ta_e g)))] := hD
                exfalso; have h9 := hi14; omega
            · refine ta_val (ta_wrap h0) ?_
              refine lv_istore (lv' := [(4, .int (nI (y0 - 1))), (3, .int (nI x0)), (2, .int (nI (t 0))), (0, .ref (z 0)), (1, .int (nI 0))]) hx hb dX8_steps_63 hl (by decide) rfl (fun ls hl => ?_)
              refine lv_iload_n hx hb dX8_steps_65 rfl (lv_at hl 1 rfl) ?_
              refine ta_iconst C 0 dX8_steps_66 (by decide) ?_
              refine lv_iload_n hx hb dX8_steps_67 rfl (lv_at hl 2 rfl) ?_
              refine ta_iconst C 1 dX8_steps_68 (by decide) ?_
              refine ta_isub C (a := t 0) (b := 1) (by omega) dX8_steps_69 ?_
              refine ta_callSi (As := [.int (nI x0), .int (nI 0), .int (nI ((t 0) - 1))]) (rest0 := []) (Wr := [(z 0, .inr (8, [.ref (z 1), .int (nI ty), .ref (z 2), .ref (z 3), .ref (z 4), .ref (z 5), .int (nI kn), .ref (z 6), .ref (z 7), .ref (z 8), .int (nI no), .int (nI at_), .int (nI so), .int (nI sr), .int (nI va), .ref (z 9)])), (z 2, .inl (k.1 0, 23, .inl (ta_e t))), (z 4, .inl (k.1 0, 66, .inl (ta_e g)))]) C hP hD hS (c_X8_in l D k x0 0 ((t 0) - 1) (by omega) (by omega) (by omega)) [] [0, 1, 2] rfl rfl (by decide) (by decide) (by decide) tw_159 tw_157 tw_5 tw_158 ⟨by decide, by decide, rfl⟩ ⟨Nat.le_of_ble_eq_true rfl, Nat.le_of_ble_eq_true rfl⟩ ⟨Nat.zero_le _, Nat.zero_le _⟩ hl.1 rfl (Nat.le_of_ble_eq_true rfl) dX8_steps_70 (fun r15 u16 H locs h17 hP hD hS => ?_)
              rcases h17 with h0 | h0
              · obtain ⟨hi18, rfl⟩ := h0
                have hP : va_P D vwCl [(z 0, .inr (8, [.ref (z 1), .int (nI ty), .ref (z 2), .ref (z 3), .ref (z 4), .ref (z 5), .int (nI kn), .ref (z 6), .ref (z 7), .ref (z 8), .int (nI no), .int (nI at_), .int (nI so), .int (nI sr), .int (nI va), .ref (z 9)])), (z 2, .inl (k.1 0, 23, .inl (ta_e t))), (z 4, .inl (k.1 0, 66, .inl (ta_e g)))] H := hP
                have hD : va_D A [(z 0, .inr (8, [.ref (z 1), .int (nI ty), .ref (z 2), .ref (z 3), .ref (z 4), .ref (z 5), .int (nI kn), .ref (z 6), .ref (z 7), .ref (z 8), .int (nI no), .int (nI at_), .int (nI so), .int (nI sr), .int (nI va), .ref (z 9)])), (z 2, .inl (k.1 0, 23, .inl (ta_e t))), (z 4, .inl (k.1 0, 66, .inl (ta_e g)))] := hD
                refine lv_if_eq (tgt := 126) hx hb dX8_steps_73 (by decide) (fun c19 => ?_) (fun c19 => ?_)
                · exact absurd c19 (by decide)
                · refine lv_iload hx hb dX8_steps_76 (lv_at hl 0 rfl) ?_
                  refine ta_iconst C 0 dX8_steps_78 (by decide) ?_
                  refine lv_aload_n hx hb dX8_steps_79 rfl (lv_at hl 3 rfl) ?_
                  refine ta_get C hP 0 inlX8 rfl rfl 2 (by decide) tw_126 rfl dX8_steps_80 ?_
                  refine ta_iconst C 1 dX8_steps_83 (by decide) ?_
                  refine ta_iald C hP 1 rfl (i := 1) (by omega) dX8_steps_84 ?_
                  refine ta_iconst C 1 dX8_steps_85 (by decide) ?_
                  refine ta_isub C (a := t 1) (b := 1) (by omega) dX8_steps_86 ?_
                  refine ta_callSi (As := [.int (nI (y0 - 1)), .int (nI 0), .int (nI ((t 1) - 1))]) (rest0 := []) (Wr := [(z 0, .inr (8, [.ref (z 1), .int (nI ty), .ref (z 2), .ref (z 3), .ref (z 4), .ref (z 5), .int (nI kn), .ref (z 6), .ref (z 7), .ref (z 8), .int (nI no), .int (nI at_), .int (nI so), .int (nI sr), .int (nI va), .ref (z 9)])), (z 2, .inl (k.1 0, 23, .inl (ta_e t))), (z 4, .inl (k.1 0, 66, .inl (ta_e g)))]) C hP hD hS (c_X8_in l D k (y0 - 1) 0 ((t 1) - 1) (by omega) (by omega) (by omega)) [] [0, 1, 2] rfl rfl (by decide) (by decide) (by decide) tw_159 tw_157 tw_5 tw_158 ⟨by decide, by decide, rfl⟩ ⟨Nat.le_of_ble_eq_true rfl, Nat.le_of_ble_eq_true rfl⟩ ⟨Nat.zero_le _, Nat.zero_le _⟩ hl.1 rfl (Nat.le_of_ble_eq_true rfl) dX8_steps_87 (fun r20 u21 H locs h22 hP hD hS => ?_)
                  rcases h22 with h0 | h0
                  · obtain ⟨hi23, rfl⟩ := h0
                    have hP : va_P D vwCl [(z 0, .inr (8, [.ref (z 1), .int (nI ty), .ref (z 2), .ref (z 3), .ref (z 4), .ref (z 5), .int (nI kn), .ref (z 6), .ref (z 7), .ref (z 8), .int (nI no), .int (nI at_), .int (nI so), .int (nI sr), .int (nI va), .ref (z 9)])), (z 2, .inl (k.1 0, 23, .inl (ta_e t))), (z 4, .inl (k.1 0, 66, .inl (ta_e g)))] H := hP
                    have hD : va_D A [(z 0, .inr (8, [.ref (z 1), .int (nI ty), .ref (z 2), .ref (z 3), .ref (z 4), .ref (z 5), .int (nI kn), .ref (z 6), .ref (z 7), .ref (z 8), .int (nI no), .int (nI at_), .int (nI so), .int (nI sr), .int (nI va), .ref (z 9)])), (z 2, .inl (k.1 0, 23, .inl (ta_e t))), (z 4, .inl (k.1 0, 66, .inl (ta_e g)))] := hD
                    refine lv_if_eq (tgt := 126) hx hb dX8_steps_90 (by decide) (fun c24 => ?_) (fun c24 => ?_)
                    · exact absurd c24 (by decide)
                    · refine lv_aload_n hx hb dX8_steps_93 rfl (lv_at hl 3 rfl) ?_
                      refine ta_get C hP 0 inlX8 rfl rfl 4 (by decide) tw_128 rfl dX8_steps_94 ?_
                      refine ta_iconst C 2 dX8_steps_97 (by decide) ?_
                      refine lv_iload_n hx hb dX8_steps_98 rfl (lv_at hl 2 rfl) ?_
                      refine lv_iload hx hb dX8_steps_99 (lv_at hl 0 rfl) ?_
                      refine ta_imul C (a := t 0) (b := y0 - 1) dX8_steps_101 ?_
                      refine lv_iload_n hx hb dX8_steps_102 rfl (lv_at hl 1 rfl) ?_
                      refine ta_iadd C (a := (t 0) * (y0 - 1)) (b := x0) dX8_steps_103 ?_
                      have hlt : t 0 * (y0 - 1) + x0 < 36 := Nat.lt_of_lt_of_le (tg_lt (w := t 0) (h := t 1) (by omega) (by omega)) (tg_36 (by omega) (by omega))
                      refine ta_iast C hP hD hS 2 rfl (i := 2) (v := ((t 0) * (y0 - 1)) + x0) (by omega) dX8_steps_104 (fun H locs hP hD hS => ?_)
                      have hP : va_P D vwCl [(z 0, .inr (8, [.ref (z 1), .int (nI ty), .ref (z 2), .ref (z 3), .ref (z 4), .ref (z 5), .int (nI kn), .ref (z 6), .ref (z 7), .ref (z 8), .int (nI no), .int (nI at_), .int (nI so), .int (nI sr), .int (nI va), .ref (z 9)])), (z 2, .inl (k.1 0, 23, .inl (ta_e t))), (z 4, .inl (k.1 0, 66, .inl (ta_e (ta_u g 2 (((t 0) * (y0 - 1)) + x0)))))] H := hP
                      have hD : va_D A [(z 0, .inr (8, [.ref (z 1), .int (nI ty), .ref (z 2), .ref (z 3), .ref (z 4), .ref (z 5), .int (nI kn), .ref (z 6), .ref (z 7), .ref (z 8), .int (nI no), .int (nI at_), .int (nI so), .int (nI sr), .int (nI va), .ref (z 9)])), (z 2, .inl (k.1 0, 23, .inl (ta_e t))), (z 4, .inl (k.1 0, 66, .inl (ta_e (ta_u g 2 (((t 0) * (y0 - 1)) + x0)))))] := hD
                      refine lv_aload_n hx hb dX8_steps_105 rfl (lv_at hl 3 rfl) ?_
                      refine ta_get C hP 0 inlX8 rfl rfl 4 (by decide) tw_128 rfl dX8_steps_106 ?_
                      refine ta_bipush C 30 dX8_steps_109 (by decide) ?_
                      refine lv_aload_n hx hb dX8_steps_111 rfl (lv_at hl 3 rfl) ?_
                      refine ta_get C hP 0 inlX8 rfl rfl 4 (by decide) tw_128 rfl dX8_steps_112 ?_
                      refine ta_iconst C 2 dX8_steps_115 (by decide) ?_
                      refine ta_iald C hP 2 rfl (i := 2) (by omega) dX8_steps_116 ?_
                      refine ta_nv (y := ((t 0) * (y0 - 1)) + x0) ta_us ?_
                      refine ta_iadd C (a := 30) (b := ((t 0) * (y0 - 1)) + x0) dX8_steps_117 ?_
                      refine lv_dup2_11 hx hb dX8_steps_118 rfl rfl ?_
                      refine ta_iald C hP 2 rfl (i := 30 + (((t 0) * (y0 - 1)) + x0)) (by omega) dX8_steps_119 ?_
                      refine ta_iconst C 1 dX8_steps_120 (by decide) ?_
                      refine ta_iadd C (a := (ta_u g 2 (((t 0) * (y0 - 1)) + x0)) (30 + (((t 0) * (y0 - 1)) + x0))) (b := 1) dX8_steps_121 ?_
                      refine ta_iast C hP hD hS 2 rfl (i := 30 + (((t 0) * (y0 - 1)) + x0)) (v := ((ta_u g 2 (((t 0) * (y0 - 1)) + x0)) (30 + (((t 0) * (y0 - 1)) + x0))) + 1) (by omega) dX8_steps_122 (fun H locs hP hD hS => ?_)
                      have hP : va_P D vwCl [(z 0, .inr (8, [.ref (z 1), .int (nI ty), .ref (z 2), .ref (z 3), .ref (z 4), .ref (z 5), .int (nI kn), .ref (z 6), .ref (z 7), .ref (z 8), .int (nI no), .int (nI at_), .int (nI so), .int (nI sr), .int (nI va), .ref (z 9)])), (z 2, .inl (k.1 0, 23, .inl (ta_e t))), (z 4, .inl (k.1 0, 66, .inl (ta_e (ta_u (ta_u g 2 (((t 0) * (y0 - 1)) + x0)) (30 + (((t 0) * (y0 - 1)) + x0)) (((ta_u g 2 (((t 0) * (y0 - 1)) + x0)) (30 + (((t 0) * (y0 - 1)) + x0))) + 1)))))] H := hP
                      have hD : va_D A [(z 0, .inr (8, [.ref (z 1), .int (nI ty), .ref (z 2), .ref (z 3), .ref (z 4), .ref (z 5), .int (nI kn), .ref (z 6), .ref (z 7), .ref (z 8), .int (nI no), .int (nI at_), .int (nI so), .int (nI sr), .int (nI va), .ref (z 9)])), (z 2, .inl (k.1 0, 23, .inl (ta_e t))), (z 4, .inl (k.1 0, 66, .inl (ta_e (ta_u (ta_u g 2 (((t 0) * (y0 - 1)) + x0)) (30 + (((t 0) * (y0 - 1)) + x0)) (((ta_u g 2 (((t 0) * (y0 - 1)) + x0)) (30 + (((t 0) * (y0 - 1)) + x0))) + 1)))))] := hD
                      refine lv_goto (tgt := 139) hx hb dX8_steps_123 (by decide) ?_
                      have e : ta_u (ta_u g 2 (((t 0) * (y0 - 1)) + x0)) (30 + (((t 0) * (y0 - 1)) + x0)) (((ta_u g 2 (((t 0) * (y0 - 1)) + x0)) (30 + (((t 0) * (y0 - 1)) + x0))) + 1) = tg_step t g 0 := by
                        rw [tg_step0, ← hy0, ← hx0]
                        have e2 : ta_u (ta_u g 2 (((t 0) * (y0 - 1)) + x0)) (30 + (((t 0) * (y0 - 1)) + x0)) (((ta_u g 2 (((t 0) * (y0 - 1)) + x0)) (30 + (((t 0) * (y0 - 1)) + x0))) + 1) = tg_mv t g (y0 - 1) x0 := by unfold tg_mv; rw [ta_un (by omega)]
                        rw [e2]
                        first | exact (if_pos (by omega)).symm | exact (if_neg (by omega)).symm
                      rw [e] at hP hD
                      exact ret () dX8_steps_139 trivial (hP.sub [0, 1, 2] rfl) (hD.sub [0, 1, 2] (by decide) rfl) hS
                  · obtain ⟨hi25, rfl⟩ := h0
                    have hP : va_P D vwCl [(z 0, .inr (8, [.ref (z 1), .int (nI ty), .ref (z 2), .ref (z 3), .ref (z 4), .ref (z 5), .int (nI kn), .ref (z 6), .ref (z 7), .ref (z 8), .int (nI no), .int (nI at_), .int (nI so), .int (nI sr), .int (nI va), .ref (z 9)])), (z 2, .inl (k.1 0, 23, .inl (ta_e t))), (z 4, .inl (k.1 0, 66, .inl (ta_e g)))] H := hP
                    have hD : va_D A [(z 0, .inr (8, [.ref (z 1), .int (nI ty), .ref (z 2), .ref (z 3), .ref (z 4), .ref (z 5), .int (nI kn), .ref (z 6), .ref (z 7), .ref (z 8), .int (nI no), .int (nI at_), .int (nI so), .int (nI sr), .int (nI va), .ref (z 9)])), (z 2, .inl (k.1 0, 23, .inl (ta_e t))), (z 4, .inl (k.1 0, 66, .inl (ta_e g)))] := hD
                    exfalso; have h9 := hi25; omega
              · obtain ⟨hi26, rfl⟩ := h0
                have hP : va_P D vwCl [(z 0, .inr (8, [.ref (z 1), .int (nI ty), .ref (z 2), .ref (z 3), .ref (z 4), .ref (z 5), .int (nI kn), .ref (z 6), .ref (z 7), .ref (z 8), .int (nI no), .int (nI at_), .int (nI so), .int (nI sr), .int (nI va), .ref (z 9)])), (z 2, .inl (k.1 0, 23, .inl (ta_e t))), (z 4, .inl (k.1 0, 66, .inl (ta_e g)))] H := hP
                have hD : va_D A [(z 0, .inr (8, [.ref (z 1), .int (nI ty), .ref (z 2), .ref (z 3), .ref (z 4), .ref (z 5), .int (nI kn), .ref (z 6), .ref (z 7), .ref (z 8), .int (nI no), .int (nI at_), .int (nI so), .int (nI sr), .int (nI va), .ref (z 9)])), (z 2, .inl (k.1 0, 23, .inl (ta_e t))), (z 4, .inl (k.1 0, 66, .inl (ta_e g)))] := hD
                exfalso; have h9 := hi26; omega
        · exact absurd c3 (by decide)
      · exact absurd c2 (by decide)
    · exact absurd c1 (by decide)
  · refine lv_aload_n hx hb dX8_steps_0 rfl (lv_at hl 0 rfl) ?_
    refine ta_get C hP 0 inlX8 rfl rfl 2 (by decide) tw_126 rfl dX8_steps_1 ?_
    refine ta_iconst C 0 dX8_steps_4 (by decide) ?_
    refine ta_iald C hP 1 rfl (i := 0) (by omega) dX8_steps_5 ?_
    refine lv_istore_n (lv' := [(2, .int (nI (t 0))), (0, .ref (z 0)), (1, .int (nI 1))]) hx hb dX8_steps_6 rfl hl (by decide) rfl (fun ls hl => ?_)
    refine lv_aload_n hx hb dX8_steps_7 rfl (lv_at hl 1 rfl) ?_
    refine ta_get C hP 0 inlX8 rfl rfl 4 (by decide) tw_128 rfl dX8_steps_8 ?_
    refine ta_iconst C 2 dX8_steps_11 (by decide) ?_
    refine ta_iald C hP 2 rfl (i := 2) (by omega) dX8_steps_12 ?_
    refine lv_iload_n hx hb dX8_steps_13 rfl (lv_at hl 0 rfl) ?_
    refine ta_irem C (a := g 2) (b := t 0) (by omega) (by omega) (by omega) dX8_steps_14 ?_
    refine ta_nv (y := x0) hx0.symm ?_
    refine lv_iload_n hx hb dX8_steps_15 rfl (lv_at hl 2 rfl) ?_
    refine ta_iconst C 1 dX8_steps_16 (by decide) ?_
    refine lv_icmp_ne (tgt := 24) hx hb dX8_steps_17 (by decide) (fun c27 => ?_) (fun c27 => ?_)
    · exact absurd c27 (by decide)
    · refine ta_iconst C 1 dX8_steps_20 (by decide) ?_
      refine lv_goto (tgt := 34) hx hb dX8_steps_21 (by decide) ?_
      refine ta_iadd C (a := x0) (b := 1) dX8_steps_34 ?_
      refine lv_istore_n (lv' := [(3, .int (nI (x0 + 1))), (2, .int (nI (t 0))), (0, .ref (z 0)), (1, .int (nI 1))]) hx hb dX8_steps_35 rfl hl (by decide) rfl (fun ls hl => ?_)
      refine lv_aload_n hx hb dX8_steps_36 rfl (lv_at hl 2 rfl) ?_
      refine ta_get C hP 0 inlX8 rfl rfl 4 (by decide) tw_128 rfl dX8_steps_37 ?_
      refine ta_iconst C 2 dX8_steps_40 (by decide) ?_
      refine ta_iald C hP 2 rfl (i := 2) (by omega) dX8_steps_41 ?_
      refine lv_iload_n hx hb dX8_steps_42 rfl (lv_at hl 1 rfl) ?_
      refine ta_idiv C (a := g 2) (b := t 0) (by omega) (by omega) (by omega) dX8_steps_43 ?_
      refine ta_nv (y := y0) hy0.symm ?_
      refine lv_iload_n hx hb dX8_steps_44 rfl (lv_at hl 3 rfl) ?_
      refine ta_iconst C 2 dX8_steps_45 (by decide) ?_
      refine lv_icmp_ne (tgt := 53) hx hb dX8_steps_46 (by decide) (fun c28 => ?_) (fun c28 => ?_)
      · refine lv_iload_n hx hb dX8_steps_53 rfl (lv_at hl 3 rfl) ?_
        refine lv_if_ne (tgt := 61) hx hb dX8_steps_54 (by decide) (fun c29 => ?_) (fun c29 => ?_)
        · refine ta_iconst C 0 dX8_steps_61 (by decide) ?_
          refine ta_iadd C (a := y0) (b := 0) dX8_steps_62 ?_
          refine ta_nv (y := y0) (Nat.add_zero _) ?_
          refine lv_istore (lv' := [(4, .int (nI y0)), (3, .int (nI (x0 + 1))), (2, .int (nI (t 0))), (0, .ref (z 0)), (1, .int (nI 1))]) hx hb dX8_steps_63 hl (by decide) rfl (fun ls hl => ?_)
          refine lv_iload_n hx hb dX8_steps_65 rfl (lv_at hl 1 rfl) ?_
          refine ta_iconst C 0 dX8_steps_66 (by decide) ?_
          refine lv_iload_n hx hb dX8_steps_67 rfl (lv_at hl 2 rfl) ?_
          refine ta_iconst C 1 dX8_steps_68 (by decide) ?_
          refine ta_isub C (a := t 0) (b := 1) (by omega) dX8_steps_69 ?_
          refine ta_callSi (As := [.int (nI (x0 + 1)), .int (nI 0), .int (nI ((t 0) - 1))]) (rest0 := []) (Wr := [(z 0, .inr (8, [.ref (z 1), .int (nI ty), .ref (z 2), .ref (z 3), .ref (z 4), .ref (z 5), .int (nI kn), .ref (z 6), .ref (z 7), .ref (z 8), .int (nI no), .int (nI at_), .int (nI so), .int (nI sr), .int (nI va), .ref (z 9)])), (z 2, .inl (k.1 0, 23, .inl (ta_e t))), (z 4, .inl (k.1 0, 66, .inl (ta_e g)))]) C hP hD hS (c_X8_in l D k (x0 + 1) 0 ((t 0) - 1) (by omega) (by omega) (by omega)) [] [0, 1, 2] rfl rfl (by decide) (by decide) (by decide) tw_159 tw_157 tw_5 tw_158 ⟨by decide, by decide, rfl⟩ ⟨Nat.le_of_ble_eq_true rfl, Nat.le_of_ble_eq_true rfl⟩ ⟨Nat.zero_le _, Nat.zero_le _⟩ hl.1 rfl (Nat.le_of_ble_eq_true rfl) dX8_steps_70 (fun r30 u31 H locs h32 hP hD hS => ?_)
          rcases h32 with h0 | h0
          · obtain ⟨hi33, rfl⟩ := h0
            have hP : va_P D vwCl [(z 0, .inr (8, [.ref (z 1), .int (nI ty), .ref (z 2), .ref (z 3), .ref (z 4), .ref (z 5), .int (nI kn), .ref (z 6), .ref (z 7), .ref (z 8), .int (nI no), .int (nI at_), .int (nI so), .int (nI sr), .int (nI va), .ref (z 9)])), (z 2, .inl (k.1 0, 23, .inl (ta_e t))), (z 4, .inl (k.1 0, 66, .inl (ta_e g)))] H := hP
            have hD : va_D A [(z 0, .inr (8, [.ref (z 1), .int (nI ty), .ref (z 2), .ref (z 3), .ref (z 4), .ref (z 5), .int (nI kn), .ref (z 6), .ref (z 7), .ref (z 8), .int (nI no), .int (nI at_), .int (nI so), .int (nI sr), .int (nI va), .ref (z 9)])), (z 2, .inl (k.1 0, 23, .inl (ta_e t))), (z 4, .inl (k.1 0, 66, .inl (ta_e g)))] := hD
            refine lv_if_eq (tgt := 126) hx hb dX8_steps_73 (by decide) (fun c34 => ?_) (fun c34 => ?_)
            · exact absurd c34 (by decide)
            · refine lv_iload hx hb dX8_steps_76 (lv_at hl 0 rfl) ?_
              refine ta_iconst C 0 dX8_steps_78 (by decide) ?_
              refine lv_aload_n hx hb dX8_steps_79 rfl (lv_at hl 3 rfl) ?_
              refine ta_get C hP 0 inlX8 rfl rfl 2 (by decide) tw_126 rfl dX8_steps_80 ?_
              refine ta_iconst C 1 dX8_steps_83 (by decide) ?_
              refine ta_iald C hP 1 rfl (i := 1) (by omega) dX8_steps_84 ?_
              refine ta_iconst C 1 dX8_steps_85 (by decide) ?_
              refine ta_isub C (a := t 1) (b := 1) (by omega) dX8_steps_86 ?_
              refine ta_callSi (As := [.int (nI y0), .int (nI 0), .int (nI ((t 1) - 1))]) (rest0 := []) (Wr := [(z 0, .inr (8, [.ref (z 1), .int (nI ty), .ref (z 2), .ref (z 3), .ref (z 4), .ref (z 5), .int (nI kn), .ref (z 6), .ref (z 7), .ref (z 8), .int (nI no), .int (nI at_), .int (nI so), .int (nI sr), .int (nI va), .ref (z 9)])), (z 2, .inl (k.1 0, 23, .inl (ta_e t))), (z 4, .inl (k.1 0, 66, .inl (ta_e g)))]) C hP hD hS (c_X8_in l D k y0 0 ((t 1) - 1) (by omega) (by omega) (by omega)) [] [0, 1, 2] rfl rfl (by decide) (by decide) (by decide) tw_159 tw_157 tw_5 tw_158 ⟨by decide, by decide, rfl⟩ ⟨Nat.le_of_ble_eq_true rfl, Nat.le_of_ble_eq_true rfl⟩ ⟨Nat.zero_le _, Nat.zero_le _⟩ hl.1 rfl (Nat.le_of_ble_eq_true rfl) dX8_steps_87 (fun r35 u36 H locs h37 hP hD hS => ?_)
              rcases h37 with h0 | h0
              · obtain ⟨hi38, rfl⟩ := h0
                have hP : va_P D vwCl [(z 0, .inr (8, [.ref (z 1), .int (nI ty), .ref (z 2), .ref (z 3), .ref (z 4), .ref (z 5), .int (nI kn), .ref (z 6), .ref (z 7), .ref (z 8), .int (nI no), .int (nI at_), .int (nI so), .int (nI sr), .int (nI va), .ref (z 9)])), (z 2, .inl (k.1 0, 23, .inl (ta_e t))), (z 4, .inl (k.1 0, 66, .inl (ta_e g)))] H := hP
                have hD : va_D A [(z 0, .inr (8, [.ref (z 1), .int (nI ty), .ref (z 2), .ref (z 3), .ref (z 4), .ref (z 5), .int (nI kn), .ref (z 6), .ref (z 7), .ref (z 8), .int (nI no), .int (nI at_), .int (nI so), .int (nI sr), .int (nI va), .ref (z 9)])), (z 2, .inl (k.1 0, 23, .inl (ta_e t))), (z 4, .inl (k.1 0, 66, .inl (ta_e g)))] := hD
                refine lv_if_eq (tgt := 126) hx hb dX8_steps_90 (by decide) (fun c39 => ?_) (fun c39 => ?_)
                · exact absurd c39 (by decide)
                · refine lv_aload_n hx hb dX8_steps_93 rfl (lv_at hl 3 rfl) ?_
                  refine ta_get C hP 0 inlX8 rfl rfl 4 (by decide) tw_128 rfl dX8_steps_94 ?_
                  refine ta_iconst C 2 dX8_steps_97 (by decide) ?_
                  refine lv_iload_n hx hb dX8_steps_98 rfl (lv_at hl 2 rfl) ?_
                  refine lv_iload hx hb dX8_steps_99 (lv_at hl 0 rfl) ?_
                  refine ta_imul C (a := t 0) (b := y0) dX8_steps_101 ?_
                  refine lv_iload_n hx hb dX8_steps_102 rfl (lv_at hl 1 rfl) ?_
                  refine ta_iadd C (a := (t 0) * y0) (b := x0 + 1) dX8_steps_103 ?_
                  have hlt : t 0 * y0 + (x0 + 1) < 36 := Nat.lt_of_lt_of_le (tg_lt (w := t 0) (h := t 1) (by omega) (by omega)) (tg_36 (by omega) (by omega))
                  refine ta_iast C hP hD hS 2 rfl (i := 2) (v := ((t 0) * y0) + (x0 + 1)) (by omega) dX8_steps_104 (fun H locs hP hD hS => ?_)
                  have hP : va_P D vwCl [(z 0, .inr (8, [.ref (z 1), .int (nI ty), .ref (z 2), .ref (z 3), .ref (z 4), .ref (z 5), .int (nI kn), .ref (z 6), .ref (z 7), .ref (z 8), .int (nI no), .int (nI at_), .int (nI so), .int (nI sr), .int (nI va), .ref (z 9)])), (z 2, .inl (k.1 0, 23, .inl (ta_e t))), (z 4, .inl (k.1 0, 66, .inl (ta_e (ta_u g 2 (((t 0) * y0) + (x0 + 1))))))] H := hP
                  have hD : va_D A [(z 0, .inr (8, [.ref (z 1), .int (nI ty), .ref (z 2), .ref (z 3), .ref (z 4), .ref (z 5), .int (nI kn), .ref (z 6), .ref (z 7), .ref (z 8), .int (nI no), .int (nI at_), .int (nI so), .int (nI sr), .int (nI va), .ref (z 9)])), (z 2, .inl (k.1 0, 23, .inl (ta_e t))), (z 4, .inl (k.1 0, 66, .inl (ta_e (ta_u g 2 (((t 0) * y0) + (x0 + 1))))))] := hD
                  refine lv_aload_n hx hb dX8_steps_105 rfl (lv_at hl 3 rfl) ?_
                  refine ta_get C hP 0 inlX8 rfl rfl 4 (by decide) tw_128 rfl dX8_steps_106 ?_
                  refine ta_bipush C 30 dX8_steps_109 (by decide) ?_
                  refine lv_aload_n hx hb dX8_steps_111 rfl (lv_at hl 3 rfl) ?_
                  refine ta_get C hP 0 inlX8 rfl rfl 4 (by decide) tw_128 rfl dX8_steps_112 ?_
                  refine ta_iconst C 2 dX8_steps_115 (by decide) ?_
                  refine ta_iald C hP 2 rfl (i := 2) (by omega) dX8_steps_116 ?_
                  refine ta_nv (y := ((t 0) * y0) + (x0 + 1)) ta_us ?_
                  refine ta_iadd C (a := 30) (b := ((t 0) * y0) + (x0 + 1)) dX8_steps_117 ?_
                  refine lv_dup2_11 hx hb dX8_steps_118 rfl rfl ?_
                  refine ta_iald C hP 2 rfl (i := 30 + (((t 0) * y0) + (x0 + 1))) (by omega) dX8_steps_119 ?_
                  refine ta_iconst C 1 dX8_steps_120 (by decide) ?_
                  refine ta_iadd C (a := (ta_u g 2 (((t 0) * y0) + (x0 + 1))) (30 + (((t 0) * y0) + (x0 + 1)))) (b := 1) dX8_steps_121 ?_
                  refine ta_iast C hP hD hS 2 rfl (i := 30 + (((t 0) * y0) + (x0 + 1))) (v := ((ta_u g 2 (((t 0) * y0) + (x0 + 1))) (30 + (((t 0) * y0) + (x0 + 1)))) + 1) (by omega) dX8_steps_122 (fun H locs hP hD hS => ?_)
                  have hP : va_P D vwCl [(z 0, .inr (8, [.ref (z 1), .int (nI ty), .ref (z 2), .ref (z 3), .ref (z 4), .ref (z 5), .int (nI kn), .ref (z 6), .ref (z 7), .ref (z 8), .int (nI no), .int (nI at_), .int (nI so), .int (nI sr), .int (nI va), .ref (z 9)])), (z 2, .inl (k.1 0, 23, .inl (ta_e t))), (z 4, .inl (k.1 0, 66, .inl (ta_e (ta_u (ta_u g 2 (((t 0) * y0) + (x0 + 1))) (30 + (((t 0) * y0) + (x0 + 1))) (((ta_u g 2 (((t 0) * y0) + (x0 + 1))) (30 + (((t 0) * y0) + (x0 + 1)))) + 1)))))] H := hP
                  have hD : va_D A [(z 0, .inr (8, [.ref (z 1), .int (nI ty), .ref (z 2), .ref (z 3), .ref (z 4), .ref (z 5), .int (nI kn), .ref (z 6), .ref (z 7), .ref (z 8), .int (nI no), .int (nI at_), .int (nI so), .int (nI sr), .int (nI va), .ref (z 9)])), (z 2, .inl (k.1 0, 23, .inl (ta_e t))), (z 4, .inl (k.1 0, 66, .inl (ta_e (ta_u (ta_u g 2 (((t 0) * y0) + (x0 + 1))) (30 + (((t 0) * y0) + (x0 + 1))) (((ta_u g 2 (((t 0) * y0) + (x0 + 1))) (30 + (((t 0) * y0) + (x0 + 1)))) + 1)))))] := hD
                  refine lv_goto (tgt := 139) hx hb dX8_steps_123 (by decide) ?_
                  have e : ta_u (ta_u g 2 (((t 0) * y0) + (x0 + 1))) (30 + (((t 0) * y0) + (x0 + 1))) (((ta_u g 2 (((t 0) * y0) + (x0 + 1))) (30 + (((t 0) * y0) + (x0 + 1)))) + 1) = tg_step t g 1 := by
                    rw [tg_step1, ← hy0, ← hx0]
                    have e2 : ta_u (ta_u g 2 (((t 0) * y0) + (x0 + 1))) (30 + (((t 0) * y0) + (x0 + 1))) (((ta_u g 2 (((t 0) * y0) + (x0 + 1))) (30 + (((t 0) * y0) + (x0 + 1)))) + 1) = tg_mv t g y0 (x0 + 1) := by unfold tg_mv; rw [ta_un (by omega)]
                    rw [e2]
                    first | exact (if_pos (by omega)).symm | exact (if_neg (by omega)).symm
                  rw [e] at hP hD
                  exact ret () dX8_steps_139 trivial (hP.sub [0, 1, 2] rfl) (hD.sub [0, 1, 2] (by decide) rfl) hS
              · obtain ⟨hi40, rfl⟩ := h0
                have hP : va_P D vwCl [(z 0, .inr (8, [.ref (z 1), .int (nI ty), .ref (z 2), .ref (z 3), .ref (z 4), .ref (z 5), .int (nI kn), .ref (z 6), .ref (z 7), .ref (z 8), .int (nI no), .int (nI at_), .int (nI so), .int (nI sr), .int (nI va), .ref (z 9)])), (z 2, .inl (k.1 0, 23, .inl (ta_e t))), (z 4, .inl (k.1 0, 66, .inl (ta_e g)))] H := hP
                have hD : va_D A [(z 0, .inr (8, [.ref (z 1), .int (nI ty), .ref (z 2), .ref (z 3), .ref (z 4), .ref (z 5), .int (nI kn), .ref (z 6), .ref (z 7), .ref (z 8), .int (nI no), .int (nI at_), .int (nI so), .int (nI sr), .int (nI va), .ref (z 9)])), (z 2, .inl (k.1 0, 23, .inl (ta_e t))), (z 4, .inl (k.1 0, 66, .inl (ta_e g)))] := hD
                exfalso; have h9 := hi40; omega
          · obtain ⟨hi41, rfl⟩ := h0
            have hP : va_P D vwCl [(z 0, .inr (8, [.ref (z 1), .int (nI ty), .ref (z 2), .ref (z 3), .ref (z 4), .ref (z 5), .int (nI kn), .ref (z 6), .ref (z 7), .ref (z 8), .int (nI no), .int (nI at_), .int (nI so), .int (nI sr), .int (nI va), .ref (z 9)])), (z 2, .inl (k.1 0, 23, .inl (ta_e t))), (z 4, .inl (k.1 0, 66, .inl (ta_e g)))] H := hP
            have hD : va_D A [(z 0, .inr (8, [.ref (z 1), .int (nI ty), .ref (z 2), .ref (z 3), .ref (z 4), .ref (z 5), .int (nI kn), .ref (z 6), .ref (z 7), .ref (z 8), .int (nI no), .int (nI at_), .int (nI so), .int (nI sr), .int (nI va), .ref (z 9)])), (z 2, .inl (k.1 0, 23, .inl (ta_e t))), (z 4, .inl (k.1 0, 66, .inl (ta_e g)))] := hD
            refine lv_if_eq (tgt := 126) hx hb dX8_steps_73 (by decide) (fun c42 => ?_) (fun c42 => ?_)
            · refine lv_aload_n hx hb dX8_steps_126 rfl (lv_at hl 3 rfl) ?_
              refine ta_get C hP 0 inlX8 rfl rfl 4 (by decide) tw_128 rfl dX8_steps_127 ?_
              refine ta_bipush C 26 dX8_steps_130 (by decide) ?_
              refine lv_iload_n hx hb dX8_steps_132 rfl (lv_at hl 4 rfl) ?_
              refine ta_iadd C (a := 26) (b := 1) dX8_steps_133 ?_
              refine lv_dup2_11 hx hb dX8_steps_134 rfl rfl ?_
              refine ta_iald C hP 2 rfl (i := 27) (by omega) dX8_steps_135 ?_
              refine ta_iconst C 1 dX8_steps_136 (by decide) ?_
              refine ta_iadd C (a := g 27) (b := 1) dX8_steps_137 ?_
              refine ta_iast C hP hD hS 2 rfl (i := 27) (v := (g 27) + 1) (by omega) dX8_steps_138 (fun H locs hP hD hS => ?_)
              have hP : va_P D vwCl [(z 0, .inr (8, [.ref (z 1), .int (nI ty), .ref (z 2), .ref (z 3), .ref (z 4), .ref (z 5), .int (nI kn), .ref (z 6), .ref (z 7), .ref (z 8), .int (nI no), .int (nI at_), .int (nI so), .int (nI sr), .int (nI va), .ref (z 9)])), (z 2, .inl (k.1 0, 23, .inl (ta_e t))), (z 4, .inl (k.1 0, 66, .inl (ta_e (ta_u g 27 ((g 27) + 1)))))] H := hP
              have hD : va_D A [(z 0, .inr (8, [.ref (z 1), .int (nI ty), .ref (z 2), .ref (z 3), .ref (z 4), .ref (z 5), .int (nI kn), .ref (z 6), .ref (z 7), .ref (z 8), .int (nI no), .int (nI at_), .int (nI so), .int (nI sr), .int (nI va), .ref (z 9)])), (z 2, .inl (k.1 0, 23, .inl (ta_e t))), (z 4, .inl (k.1 0, 66, .inl (ta_e (ta_u g 27 ((g 27) + 1)))))] := hD
              have e : ta_u g 27 ((g 27) + 1) = tg_step t g 1 := by
                rw [tg_step1, ← hy0, ← hx0]
                first | exact (if_pos (by omega)).symm | exact (if_neg (by omega)).symm
              rw [e] at hP hD
              exact ret () dX8_steps_139 trivial (hP.sub [0, 1, 2] rfl) (hD.sub [0, 1, 2] (by decide) rfl) hS
            · exact absurd c42 (by decide)
        · exact absurd c29 (by decide)
      · exact absurd c28 (by decide)
  · refine lv_aload_n hx hb dX8_steps_0 rfl (lv_at hl 0 rfl) ?_
    refine ta_get C hP 0 inlX8 rfl rfl 2 (by decide) tw_126 rfl dX8_steps_1 ?_
    refine ta_iconst C 0 dX8_steps_4 (by decide) ?_
    refine ta_iald C hP 1 rfl (i := 0) (by omega) dX8_steps_5 ?_
    refine lv_istore_n (lv' := [(2, .int (nI (t 0))), (0, .ref (z 0)), (1, .int (nI 2))]) hx hb dX8_steps_6 rfl hl (by decide) rfl (fun ls hl => ?_)
    refine lv_aload_n hx hb dX8_steps_7 rfl (lv_at hl 1 rfl) ?_
    refine ta_get C hP 0 inlX8 rfl rfl 4 (by decide) tw_128 rfl dX8_steps_8 ?_
    refine ta_iconst C 2 dX8_steps_11 (by decide) ?_
    refine ta_iald C hP 2 rfl (i := 2) (by omega) dX8_steps_12 ?_
    refine lv_iload_n hx hb dX8_steps_13 rfl (lv_at hl 0 rfl) ?_
    refine ta_irem C (a := g 2) (b := t 0) (by omega) (by omega) (by omega) dX8_steps_14 ?_
    refine ta_nv (y := x0) hx0.symm ?_
    refine lv_iload_n hx hb dX8_steps_15 rfl (lv_at hl 2 rfl) ?_
    refine ta_iconst C 1 dX8_steps_16 (by decide) ?_
    refine lv_icmp_ne (tgt := 24) hx hb dX8_steps_17 (by decide) (fun c43 => ?_) (fun c43 => ?_)
    · refine lv_iload_n hx hb dX8_steps_24 rfl (lv_at hl 2 rfl) ?_
      refine ta_iconst C 3 dX8_steps_25 (by decide) ?_
      refine lv_icmp_ne (tgt := 33) hx hb dX8_steps_26 (by decide) (fun c44 => ?_) (fun c44 => ?_)
      · refine ta_iconst C 0 dX8_steps_33 (by decide) ?_
        refine ta_iadd C (a := x0) (b := 0) dX8_steps_34 ?_
        refine ta_nv (y := x0) (Nat.add_zero _) ?_
        refine lv_istore_n (lv' := [(3, .int (nI x0)), (2, .int (nI (t 0))), (0, .ref (z 0)), (1, .int (nI 2))]) hx hb dX8_steps_35 rfl hl (by decide) rfl (fun ls hl => ?_)
        refine lv_aload_n hx hb dX8_steps_36 rfl (lv_at hl 2 rfl) ?_
        refine ta_get C hP 0 inlX8 rfl rfl 4 (by decide) tw_128 rfl dX8_steps_37 ?_
        refine ta_iconst C 2 dX8_steps_40 (by decide) ?_
        refine ta_iald C hP 2 rfl (i := 2) (by omega) dX8_steps_41 ?_
        refine lv_iload_n hx hb dX8_steps_42 rfl (lv_at hl 1 rfl) ?_
        refine ta_idiv C (a := g 2) (b := t 0) (by omega) (by omega) (by omega) dX8_steps_43 ?_
        refine ta_nv (y := y0) hy0.symm ?_
        refine lv_iload_n hx hb dX8_steps_44 rfl (lv_at hl 3 rfl) ?_
        refine ta_iconst C 2 dX8_steps_45 (by decide) ?_
        refine lv_icmp_ne (tgt := 53) hx hb dX8_steps_46 (by decide) (fun c45 => ?_) (fun c45 => ?_)
        · exact absurd c45 (by decide)
        · refine ta_iconst C 1 dX8_steps_49 (by decide) ?_
          refine lv_goto (tgt := 62) hx hb dX8_steps_50 (by decide) ?_
          refine ta_iadd C (a := y0) (b := 1) dX8_steps_62 ?_
          refine lv_istore (lv' := [(4, .int (nI (y0 + 1))), (3, .int (nI x0)), (2, .int (nI (t 0))), (0, .ref (z 0)), (1, .int (nI 2))]) hx hb dX8_steps_63 hl (by decide) rfl (fun ls hl => ?_)
          refine lv_iload_n hx hb dX8_steps_65 rfl (lv_at hl 1 rfl) ?_
          refine ta_iconst C 0 dX8_steps_66 (by decide) ?_
          refine lv_iload_n hx hb dX8_steps_67 rfl (lv_at hl 2 rfl) ?_
          refine ta_iconst C 1 dX8_steps_68 (by decide) ?_
          refine ta_isub C (a := t 0) (b := 1) (by omega) dX8_steps_69 ?_
          refine ta_callSi (As := [.int (nI x0), .int (nI 0), .int (nI ((t 0) - 1))]) (rest0 := []) (Wr := [(z 0, .inr (8, [.ref (z 1), .int (nI ty), .ref (z 2), .ref (z 3), .ref (z 4), .ref (z 5), .int (nI kn), .ref (z 6), .ref (z 7), .ref (z 8), .int (nI no), .int (nI at_), .int (nI so), .int (nI sr), .int (nI va), .ref (z 9)])), (z 2, .inl (k.1 0, 23, .inl (ta_e t))), (z 4, .inl (k.1 0, 66, .inl (ta_e g)))]) C hP hD hS (c_X8_in l D k x0 0 ((t 0) - 1) (by omega) (by omega) (by omega)) [] [0, 1, 2] rfl rfl (by decide) (by decide) (by decide) tw_159 tw_157 tw_5 tw_158 ⟨by decide, by decide, rfl⟩ ⟨Nat.le_of_ble_eq_true rfl, Nat.le_of_ble_eq_true rfl⟩ ⟨Nat.zero_le _, Nat.zero_le _⟩ hl.1 rfl (Nat.le_of_ble_eq_true rfl) dX8_steps_70 (fun r46 u47 H locs h48 hP hD hS => ?_)
          rcases h48 with h0 | h0
          · obtain ⟨hi49, rfl⟩ := h0
            have hP : va_P D vwCl [(z 0, .inr (8, [.ref (z 1), .int (nI ty), .ref (z 2), .ref (z 3), .ref (z 4), .ref (z 5), .int (nI kn), .ref (z 6), .ref (z 7), .ref (z 8), .int (nI no), .int (nI at_), .int (nI so), .int (nI sr), .int (nI va), .ref (z 9)])), (z 2, .inl (k.1 0, 23, .inl (ta_e t))), (z 4, .inl (k.1 0, 66, .inl (ta_e g)))] H := hP
            have hD : va_D A [(z 0, .inr (8, [.ref (z 1), .int (nI ty), .ref (z 2), .ref (z 3), .ref (z 4), .ref (z 5), .int (nI kn), .ref (z 6), .ref (z 7), .ref (z 8), .int (nI no), .int (nI at_), .int (nI so), .int (nI sr), .int (nI va), .ref (z 9)])), (z 2, .inl (k.1 0, 23, .inl (ta_e t))), (z 4, .inl (k.1 0, 66, .inl (ta_e g)))] := hD
            refine lv_if_eq (tgt := 126) hx hb dX8_steps_73 (by decide) (fun c50 => ?_) (fun c50 => ?_)
            · exact absurd c50 (by decide)
            · refine lv_iload hx hb dX8_steps_76 (lv_at hl 0 rfl) ?_
              refine ta_iconst C 0 dX8_steps_78 (by decide) ?_
              refine lv_aload_n hx hb dX8_steps_79 rfl (lv_at hl 3 rfl) ?_
              refine ta_get C hP 0 inlX8 rfl rfl 2 (by decide) tw_126 rfl dX8_steps_80 ?_
              refine ta_iconst C 1 dX8_steps_83 (by decide) ?_
              refine ta_iald C hP 1 rfl (i := 1) (by omega) dX8_steps_84 ?_
              refine ta_iconst C 1 dX8_steps_85 (by decide) ?_
              refine ta_isub C (a := t 1) (b := 1) (by omega) dX8_steps_86 ?_
              refine ta_callSi (As := [.int (nI (y0 + 1)), .int (nI 0), .int (nI ((t 1) - 1))]) (rest0 := []) (Wr := [(z 0, .inr (8, [.ref (z 1), .int (nI ty), .ref (z 2), .ref (z 3), .ref (z 4), .ref (z 5), .int (nI kn), .ref (z 6), .ref (z 7), .ref (z 8), .int (nI no), .int (nI at_), .int (nI so), .int (nI sr), .int (nI va), .ref (z 9)])), (z 2, .inl (k.1 0, 23, .inl (ta_e t))), (z 4, .inl (k.1 0, 66, .inl (ta_e g)))]) C hP hD hS (c_X8_in l D k (y0 + 1) 0 ((t 1) - 1) (by omega) (by omega) (by omega)) [] [0, 1, 2] rfl rfl (by decide) (by decide) (by decide) tw_159 tw_157 tw_5 tw_158 ⟨by decide, by decide, rfl⟩ ⟨Nat.le_of_ble_eq_true rfl, Nat.le_of_ble_eq_true rfl⟩ ⟨Nat.zero_le _, Nat.zero_le _⟩ hl.1 rfl (Nat.le_of_ble_eq_true rfl) dX8_steps_87 (fun r51 u52 H locs h53 hP hD hS => ?_)
              rcases h53 with h0 | h0
              · obtain ⟨hi54, rfl⟩ := h0
                have hP : va_P D vwCl [(z 0, .inr (8, [.ref (z 1), .int (nI ty), .ref (z 2), .ref (z 3), .ref (z 4), .ref (z 5), .int (nI kn), .ref (z 6), .ref (z 7), .ref (z 8), .int (nI no), .int (nI at_), .int (nI so), .int (nI sr), .int (nI va), .ref (z 9)])), (z 2, .inl (k.1 0, 23, .inl (ta_e t))), (z 4, .inl (k.1 0, 66, .inl (ta_e g)))] H := hP
                have hD : va_D A [(z 0, .inr (8, [.ref (z 1), .int (nI ty), .ref (z 2), .ref (z 3), .ref (z 4), .ref (z 5), .int (nI kn), .ref (z 6), .ref (z 7), .ref (z 8), .int (nI no), .int (nI at_), .int (nI so), .int (nI sr), .int (nI va), .ref (z 9)])), (z 2, .inl (k.1 0, 23, .inl (ta_e t))), (z 4, .inl (k.1 0, 66, .inl (ta_e g)))] := hD
                refine lv_if_eq (tgt := 126) hx hb dX8_steps_90 (by decide) (fun c55 => ?_) (fun c55 => ?_)
                · exact absurd c55 (by decide)
                · refine lv_aload_n hx hb dX8_steps_93 rfl (lv_at hl 3 rfl) ?_
                  refine ta_get C hP 0 inlX8 rfl rfl 4 (by decide) tw_128 rfl dX8_steps_94 ?_
                  refine ta_iconst C 2 dX8_steps_97 (by decide) ?_
                  refine lv_iload_n hx hb dX8_steps_98 rfl (lv_at hl 2 rfl) ?_
                  refine lv_iload hx hb dX8_steps_99 (lv_at hl 0 rfl) ?_
                  refine ta_imul C (a := t 0) (b := y0 + 1) dX8_steps_101 ?_
                  refine lv_iload_n hx hb dX8_steps_102 rfl (lv_at hl 1 rfl) ?_
                  refine ta_iadd C (a := (t 0) * (y0 + 1)) (b := x0) dX8_steps_103 ?_
                  have hlt : t 0 * (y0 + 1) + x0 < 36 := Nat.lt_of_lt_of_le (tg_lt (w := t 0) (h := t 1) (by omega) (by omega)) (tg_36 (by omega) (by omega))
                  refine ta_iast C hP hD hS 2 rfl (i := 2) (v := ((t 0) * (y0 + 1)) + x0) (by omega) dX8_steps_104 (fun H locs hP hD hS => ?_)
                  have hP : va_P D vwCl [(z 0, .inr (8, [.ref (z 1), .int (nI ty), .ref (z 2), .ref (z 3), .ref (z 4), .ref (z 5), .int (nI kn), .ref (z 6), .ref (z 7), .ref (z 8), .int (nI no), .int (nI at_), .int (nI so), .int (nI sr), .int (nI va), .ref (z 9)])), (z 2, .inl (k.1 0, 23, .inl (ta_e t))), (z 4, .inl (k.1 0, 66, .inl (ta_e (ta_u g 2 (((t 0) * (y0 + 1)) + x0)))))] H := hP
                  have hD : va_D A [(z 0, .inr (8, [.ref (z 1), .int (nI ty), .ref (z 2), .ref (z 3), .ref (z 4), .ref (z 5), .int (nI kn), .ref (z 6), .ref (z 7), .ref (z 8), .int (nI no), .int (nI at_), .int (nI so), .int (nI sr), .int (nI va), .ref (z 9)])), (z 2, .inl (k.1 0, 23, .inl (ta_e t))), (z 4, .inl (k.1 0, 66, .inl (ta_e (ta_u g 2 (((t 0) * (y0 + 1)) + x0)))))] := hD
                  refine lv_aload_n hx hb dX8_steps_105 rfl (lv_at hl 3 rfl) ?_
                  refine ta_get C hP 0 inlX8 rfl rfl 4 (by decide) tw_128 rfl dX8_steps_106 ?_
                  refine ta_bipush C 30 dX8_steps_109 (by decide) ?_
                  refine lv_aload_n hx hb dX8_steps_111 rfl (lv_at hl 3 rfl) ?_
                  refine ta_get C hP 0 inlX8 rfl rfl 4 (by decide) tw_128 rfl dX8_steps_112 ?_
                  refine ta_iconst C 2 dX8_steps_115 (by decide) ?_
                  refine ta_iald C hP 2 rfl (i := 2) (by omega) dX8_steps_116 ?_
                  refine ta_nv (y := ((t 0) * (y0 + 1)) + x0) ta_us ?_
                  refine ta_iadd C (a := 30) (b := ((t 0) * (y0 + 1)) + x0) dX8_steps_117 ?_
                  refine lv_dup2_11 hx hb dX8_steps_118 rfl rfl ?_
                  refine ta_iald C hP 2 rfl (i := 30 + (((t 0) * (y0 + 1)) + x0)) (by omega) dX8_steps_119 ?_
                  refine ta_iconst C 1 dX8_steps_120 (by decide) ?_
                  refine ta_iadd C (a := (ta_u g 2 (((t 0) * (y0 + 1)) + x0)) (30 + (((t 0) * (y0 + 1)) + x0))) (b := 1) dX8_steps_121 ?_
                  refine ta_iast C hP hD hS 2 rfl (i := 30 + (((t 0) * (y0 + 1)) + x0)) (v := ((ta_u g 2 (((t 0) * (y0 + 1)) + x0)) (30 + (((t 0) * (y0 + 1)) + x0))) + 1) (by omega) dX8_steps_122 (fun H locs hP hD hS => ?_)
                  have hP : va_P D vwCl [(z 0, .inr (8, [.ref (z 1), .int (nI ty), .ref (z 2), .ref (z 3), .ref (z 4), .ref (z 5), .int (nI kn), .ref (z 6), .ref (z 7), .ref (z 8), .int (nI no), .int (nI at_), .int (nI so), .int (nI sr), .int (nI va), .ref (z 9)])), (z 2, .inl (k.1 0, 23, .inl (ta_e t))), (z 4, .inl (k.1 0, 66, .inl (ta_e (ta_u (ta_u g 2 (((t 0) * (y0 + 1)) + x0)) (30 + (((t 0) * (y0 + 1)) + x0)) (((ta_u g 2 (((t 0) * (y0 + 1)) + x0)) (30 + (((t 0) * (y0 + 1)) + x0))) + 1)))))] H := hP
                  have hD : va_D A [(z 0, .inr (8, [.ref (z 1), .int (nI ty), .ref (z 2), .ref (z 3), .ref (z 4), .ref (z 5), .int (nI kn), .ref (z 6), .ref (z 7), .ref (z 8), .int (nI no), .int (nI at_), .int (nI so), .int (nI sr), .int (nI va), .ref (z 9)])), (z 2, .inl (k.1 0, 23, .inl (ta_e t))), (z 4, .inl (k.1 0, 66, .inl (ta_e (ta_u (ta_u g 2 (((t 0) * (y0 + 1)) + x0)) (30 + (((t 0) * (y0 + 1)) + x0)) (((ta_u g 2 (((t 0) * (y0 + 1)) + x0)) (30 + (((t 0) * (y0 + 1)) + x0))) + 1)))))] := hD
                  refine lv_goto (tgt := 139) hx hb dX8_steps_123 (by decide) ?_
                  have e : ta_u (ta_u g 2 (((t 0) * (y0 + 1)) + x0)) (30 + (((t 0) * (y0 + 1)) + x0)) (((ta_u g 2 (((t 0) * (y0 + 1)) + x0)) (30 + (((t 0) * (y0 + 1)) + x0))) + 1) = tg_step t g 2 := by
                    rw [tg_step2, ← hy0, ← hx0]
                    have e2 : ta_u (ta_u g 2 (((t 0) * (y0 + 1)) + x0)) (30 + (((t 0) * (y0 + 1)) + x0)) (((ta_u g 2 (((t 0) * (y0 + 1)) + x0)) (30 + (((t 0) * (y0 + 1)) + x0))) + 1) = tg_mv t g (y0 + 1) x0 := by unfold tg_mv; rw [ta_un (by omega)]
                    rw [e2]
                    first | exact (if_pos (by omega)).symm | exact (if_neg (by omega)).symm
                  rw [e] at hP hD
                  exact ret () dX8_steps_139 trivial (hP.sub [0, 1, 2] rfl) (hD.sub [0, 1, 2] (by decide) rfl) hS
              · obtain ⟨hi56, rfl⟩ := h0
                have hP : va_P D vwCl [(z 0, .inr (8, [.ref (z 1), .int (nI ty), .ref (z 2), .ref (z 3), .ref (z 4), .ref (z 5), .int (nI kn), .ref (z 6), .ref (z 7), .ref (z 8), .int (nI no), .int (nI at_), .int (nI so), .int (nI sr), .int (nI va), .ref (z 9)])), (z 2, .inl (k.1 0, 23, .inl (ta_e t))), (z 4, .inl (k.1 0, 66, .inl (ta_e g)))] H := hP
                have hD : va_D A [(z 0, .inr (8, [.ref (z 1), .int (nI ty), .ref (z 2), .ref (z 3), .ref (z 4), .ref (z 5), .int (nI kn), .ref (z 6), .ref (z 7), .ref (z 8), .int (nI no), .int (nI at_), .int (nI so), .int (nI sr), .int (nI va), .ref (z 9)])), (z 2, .inl (k.1 0, 23, .inl (ta_e t))), (z 4, .inl (k.1 0, 66, .inl (ta_e g)))] := hD
                refine lv_if_eq (tgt := 126) hx hb dX8_steps_90 (by decide) (fun c57 => ?_) (fun c57 => ?_)
                · refine lv_aload_n hx hb dX8_steps_126 rfl (lv_at hl 3 rfl) ?_
                  refine ta_get C hP 0 inlX8 rfl rfl 4 (by decide) tw_128 rfl dX8_steps_127 ?_
                  refine ta_bipush C 26 dX8_steps_130 (by decide) ?_
                  refine lv_iload_n hx hb dX8_steps_132 rfl (lv_at hl 4 rfl) ?_
                  refine ta_iadd C (a := 26) (b := 2) dX8_steps_133 ?_
                  refine lv_dup2_11 hx hb dX8_steps_134 rfl rfl ?_
                  refine ta_iald C hP 2 rfl (i := 28) (by omega) dX8_steps_135 ?_
                  refine ta_iconst C 1 dX8_steps_136 (by decide) ?_
                  refine ta_iadd C (a := g 28) (b := 1) dX8_steps_137 ?_
                  refine ta_iast C hP hD hS 2 rfl (i := 28) (v := (g 28) + 1) (by omega) dX8_steps_138 (fun H locs hP hD hS => ?_)
                  have hP : va_P D vwCl [(z 0, .inr (8, [.ref (z 1), .int (nI ty), .ref (z 2), .ref (z 3), .ref (z 4), .ref (z 5), .int (nI kn), .ref (z 6), .ref (z 7), .ref (z 8), .int (nI no), .int (nI at_), .int (nI so), .int (nI sr), .int (nI va), .ref (z 9)])), (z 2, .inl (k.1 0, 23, .inl (ta_e t))), (z 4, .inl (k.1 0, 66, .inl (ta_e (ta_u g 28 ((g 28) + 1)))))] H := hP
                  have hD : va_D A [(z 0, .inr (8, [.ref (z 1), .int (nI ty), .ref (z 2), .ref (z 3), .ref (z 4), .ref (z 5), .int (nI kn), .ref (z 6), .ref (z 7), .ref (z 8), .int (nI no), .int (nI at_), .int (nI so), .int (nI sr), .int (nI va), .ref (z 9)])), (z 2, .inl (k.1 0, 23, .inl (ta_e t))), (z 4, .inl (k.1 0, 66, .inl (ta_e (ta_u g 28 ((g 28) + 1)))))] := hD
                  have e : ta_u g 28 ((g 28) + 1) = tg_step t g 2 := by
                    rw [tg_step2, ← hy0, ← hx0]
                    first | exact (if_pos (by omega)).symm | exact (if_neg (by omega)).symm
                  rw [e] at hP hD
                  exact ret () dX8_steps_139 trivial (hP.sub [0, 1, 2] rfl) (hD.sub [0, 1, 2] (by decide) rfl) hS
                · exact absurd c57 (by decide)
          · obtain ⟨hi58, rfl⟩ := h0
            have hP : va_P D vwCl [(z 0, .inr (8, [.ref (z 1), .int (nI ty), .ref (z 2), .ref (z 3), .ref (z 4), .ref (z 5), .int (nI kn), .ref (z 6), .ref (z 7), .ref (z 8), .int (nI no), .int (nI at_), .int (nI so), .int (nI sr), .int (nI va), .ref (z 9)])), (z 2, .inl (k.1 0, 23, .inl (ta_e t))), (z 4, .inl (k.1 0, 66, .inl (ta_e g)))] H := hP
            have hD : va_D A [(z 0, .inr (8, [.ref (z 1), .int (nI ty), .ref (z 2), .ref (z 3), .ref (z 4), .ref (z 5), .int (nI kn), .ref (z 6), .ref (z 7), .ref (z 8), .int (nI no), .int (nI at_), .int (nI so), .int (nI sr), .int (nI va), .ref (z 9)])), (z 2, .inl (k.1 0, 23, .inl (ta_e t))), (z 4, .inl (k.1 0, 66, .inl (ta_e g)))] := hD
            exfalso; have h9 := hi58; omega
      · exact absurd c44 (by decide)
    · exact absurd c43 (by decide)
  · refine lv_aload_n hx hb dX8_steps_0 rfl (lv_at hl 0 rfl) ?_
    refine ta_get C hP 0 inlX8 rfl rfl 2 (by decide) tw_126 rfl dX8_steps_1 ?_
    refine ta_iconst C 0 dX8_steps_4 (by decide) ?_
    refine ta_iald C hP 1 rfl (i := 0) (by omega) dX8_steps_5 ?_
    refine lv_istore_n (lv' := [(2, .int (nI (t 0))), (0, .ref (z 0)), (1, .int (nI 3))]) hx hb dX8_steps_6 rfl hl (by decide) rfl (fun ls hl => ?_)
    refine lv_aload_n hx hb dX8_steps_7 rfl (lv_at hl 1 rfl) ?_
    refine ta_get C hP 0 inlX8 rfl rfl 4 (by decide) tw_128 rfl dX8_steps_8 ?_
    refine ta_iconst C 2 dX8_steps_11 (by decide) ?_
    refine ta_iald C hP 2 rfl (i := 2) (by omega) dX8_steps_12 ?_
    refine lv_iload_n hx hb dX8_steps_13 rfl (lv_at hl 0 rfl) ?_
    refine ta_irem C (a := g 2) (b := t 0) (by omega) (by omega) (by omega) dX8_steps_14 ?_
    refine ta_nv (y := x0) hx0.symm ?_
    refine lv_iload_n hx hb dX8_steps_15 rfl (lv_at hl 2 rfl) ?_
    refine ta_iconst C 1 dX8_steps_16 (by decide) ?_
    refine lv_icmp_ne (tgt := 24) hx hb dX8_steps_17 (by decide) (fun c59 => ?_) (fun c59 => ?_)
    · refine lv_iload_n hx hb dX8_steps_24 rfl (lv_at hl 2 rfl) ?_
      refine ta_iconst C 3 dX8_steps_25 (by decide) ?_
      refine lv_icmp_ne (tgt := 33) hx hb dX8_steps_26 (by decide) (fun c60 => ?_) (fun c60 => ?_)
      · exact absurd c60 (by decide)
      · refine ta_iconst C 4294967295 dX8_steps_29 (by decide) ?_
        refine lv_goto (tgt := 34) hx hb dX8_steps_30 (by decide) ?_
        refine ta_iadd C (a := x0) (b := 4294967295) dX8_steps_34 ?_
        rcases Nat.eq_zero_or_pos x0 with h0 | h0
        · refine ta_nv (y := 4294967295) (by omega) ?_
          refine lv_istore_n (lv' := [(3, .int (nI 4294967295)), (2, .int (nI (t 0))), (0, .ref (z 0)), (1, .int (nI 3))]) hx hb dX8_steps_35 rfl hl (by decide) rfl (fun ls hl => ?_)
          refine lv_aload_n hx hb dX8_steps_36 rfl (lv_at hl 2 rfl) ?_
          refine ta_get C hP 0 inlX8 rfl rfl 4 (by decide) tw_128 rfl dX8_steps_37 ?_
          refine ta_iconst C 2 dX8_steps_40 (by decide) ?_
          refine ta_iald C hP 2 rfl (i := 2) (by omega) dX8_steps_41 ?_
          refine lv_iload_n hx hb dX8_steps_42 rfl (lv_at hl 1 rfl) ?_
          refine ta_idiv C (a := g 2) (b := t 0) (by omega) (by omega) (by omega) dX8_steps_43 ?_
          refine ta_nv (y := y0) hy0.symm ?_
          refine lv_iload_n hx hb dX8_steps_44 rfl (lv_at hl 3 rfl) ?_
          refine ta_iconst C 2 dX8_steps_45 (by decide) ?_
          refine lv_icmp_ne (tgt := 53) hx hb dX8_steps_46 (by decide) (fun c61 => ?_) (fun c61 => ?_)
          · refine lv_iload_n hx hb dX8_steps_53 rfl (lv_at hl 3 rfl) ?_
            refine lv_if_ne (tgt := 61) hx hb dX8_steps_54 (by decide) (fun c62 => ?_) (fun c62 => ?_)
            · refine ta_iconst C 0 dX8_steps_61 (by decide) ?_
              refine ta_iadd C (a := y0) (b := 0) dX8_steps_62 ?_
              refine ta_nv (y := y0) (Nat.add_zero _) ?_
              refine lv_istore (lv' := [(4, .int (nI y0)), (3, .int (nI 4294967295)), (2, .int (nI (t 0))), (0, .ref (z 0)), (1, .int (nI 3))]) hx hb dX8_steps_63 hl (by decide) rfl (fun ls hl => ?_)
              refine lv_iload_n hx hb dX8_steps_65 rfl (lv_at hl 1 rfl) ?_
              refine ta_iconst C 0 dX8_steps_66 (by decide) ?_
              refine lv_iload_n hx hb dX8_steps_67 rfl (lv_at hl 2 rfl) ?_
              refine ta_iconst C 1 dX8_steps_68 (by decide) ?_
              refine ta_isub C (a := t 0) (b := 1) (by omega) dX8_steps_69 ?_
              refine ta_callSi (As := [.int (nI 4294967295), .int (nI 0), .int (nI ((t 0) - 1))]) (rest0 := []) (Wr := [(z 0, .inr (8, [.ref (z 1), .int (nI ty), .ref (z 2), .ref (z 3), .ref (z 4), .ref (z 5), .int (nI kn), .ref (z 6), .ref (z 7), .ref (z 8), .int (nI no), .int (nI at_), .int (nI so), .int (nI sr), .int (nI va), .ref (z 9)])), (z 2, .inl (k.1 0, 23, .inl (ta_e t))), (z 4, .inl (k.1 0, 66, .inl (ta_e g)))]) C hP hD hS (c_X8_in_neg l D k 0 ((t 0) - 1) (by omega)) [] [0, 1, 2] rfl rfl (by decide) (by decide) (by decide) tw_159 tw_157 tw_5 tw_158 ⟨by decide, by decide, rfl⟩ ⟨Nat.le_of_ble_eq_true rfl, Nat.le_of_ble_eq_true rfl⟩ ⟨Nat.zero_le _, Nat.zero_le _⟩ hl.1 rfl (Nat.le_of_ble_eq_true rfl) dX8_steps_70 (fun r63 u64 H locs h65 hP hD hS => ?_)
              obtain rfl := h65
              have hP : va_P D vwCl [(z 0, .inr (8, [.ref (z 1), .int (nI ty), .ref (z 2), .ref (z 3), .ref (z 4), .ref (z 5), .int (nI kn), .ref (z 6), .ref (z 7), .ref (z 8), .int (nI no), .int (nI at_), .int (nI so), .int (nI sr), .int (nI va), .ref (z 9)])), (z 2, .inl (k.1 0, 23, .inl (ta_e t))), (z 4, .inl (k.1 0, 66, .inl (ta_e g)))] H := hP
              have hD : va_D A [(z 0, .inr (8, [.ref (z 1), .int (nI ty), .ref (z 2), .ref (z 3), .ref (z 4), .ref (z 5), .int (nI kn), .ref (z 6), .ref (z 7), .ref (z 8), .int (nI no), .int (nI at_), .int (nI so), .int (nI sr), .int (nI va), .ref (z 9)])), (z 2, .inl (k.1 0, 23, .inl (ta_e t))), (z 4, .inl (k.1 0, 66, .inl (ta_e g)))] := hD
              refine lv_if_eq (tgt := 126) hx hb dX8_steps_73 (by decide) (fun c66 => ?_) (fun c66 => ?_)
              · refine lv_aload_n hx hb dX8_steps_126 rfl (lv_at hl 3 rfl) ?_
                refine ta_get C hP 0 inlX8 rfl rfl 4 (by decide) tw_128 rfl dX8_steps_127 ?_
                refine ta_bipush C 26 dX8_steps_130 (by decide) ?_
                refine lv_iload_n hx hb dX8_steps_132 rfl (lv_at hl 4 rfl) ?_
                refine ta_iadd C (a := 26) (b := 3) dX8_steps_133 ?_
                refine lv_dup2_11 hx hb dX8_steps_134 rfl rfl ?_
                refine ta_iald C hP 2 rfl (i := 29) (by omega) dX8_steps_135 ?_
                refine ta_iconst C 1 dX8_steps_136 (by decide) ?_
                refine ta_iadd C (a := g 29) (b := 1) dX8_steps_137 ?_
                refine ta_iast C hP hD hS 2 rfl (i := 29) (v := (g 29) + 1) (by omega) dX8_steps_138 (fun H locs hP hD hS => ?_)
                have hP : va_P D vwCl [(z 0, .inr (8, [.ref (z 1), .int (nI ty), .ref (z 2), .ref (z 3), .ref (z 4), .ref (z 5), .int (nI kn), .ref (z 6), .ref (z 7), .ref (z 8), .int (nI no), .int (nI at_), .int (nI so), .int (nI sr), .int (nI va), .ref (z 9)])), (z 2, .inl (k.1 0, 23, .inl (ta_e t))), (z 4, .inl (k.1 0, 66, .inl (ta_e (ta_u g 29 ((g 29) + 1)))))] H := hP
                have hD : va_D A [(z 0, .inr (8, [.ref (z 1), .int (nI ty), .ref (z 2), .ref (z 3), .ref (z 4), .ref (z 5), .int (nI kn), .ref (z 6), .ref (z 7), .ref (z 8), .int (nI no), .int (nI at_), .int (nI so), .int (nI sr), .int (nI va), .ref (z 9)])), (z 2, .inl (k.1 0, 23, .inl (ta_e t))), (z 4, .inl (k.1 0, 66, .inl (ta_e (ta_u g 29 ((g 29) + 1)))))] := hD
                have e : ta_u g 29 ((g 29) + 1) = tg_step t g 3 := by
                  rw [tg_step3, ← hy0, ← hx0]
                  first | exact (if_pos (by omega)).symm | exact (if_neg (by omega)).symm
                rw [e] at hP hD
                exact ret () dX8_steps_139 trivial (hP.sub [0, 1, 2] rfl) (hD.sub [0, 1, 2] (by decide) rfl) hS
              · exact absurd c66 (by decide)
            · exact absurd c62 (by decide)
          · exact absurd c61 (by decide)
        · refine ta_val (ta_wrap h0) ?_
          refine lv_istore_n (lv' := [(3, .int (nI (x0 - 1))), (2, .int (nI (t 0))), (0, .ref (z 0)), (1, .int (nI 3))]) hx hb dX8_steps_35 rfl hl (by decide) rfl (fun ls hl => ?_)
          refine lv_aload_n hx hb dX8_steps_36 rfl (lv_at hl 2 rfl) ?_
          refine ta_get C hP 0 inlX8 rfl rfl 4 (by decide) tw_128 rfl dX8_steps_37 ?_
          refine ta_iconst C 2 dX8_steps_40 (by decide) ?_
          refine ta_iald C hP 2 rfl (i := 2) (by omega) dX8_steps_41 ?_
          refine lv_iload_n hx hb dX8_steps_42 rfl (lv_at hl 1 rfl) ?_
          refine ta_idiv C (a := g 2) (b := t 0) (by omega) (by omega) (by omega) dX8_steps_43 ?_
          refine ta_nv (y := y0) hy0.symm ?_
          refine lv_iload_n hx hb dX8_steps_44 rfl (lv_at hl 3 rfl) ?_
          refine ta_iconst C 2 dX8_steps_45 (by decide) ?_
          refine lv_icmp_ne (tgt := 53) hx hb dX8_steps_46 (by decide) (fun c67 => ?_) (fun c67 => ?_)
          · refine lv_iload_n hx hb dX8_steps_53 rfl (lv_at hl 3 rfl) ?_
            refine lv_if_ne (tgt := 61) hx hb dX8_steps_54 (by decide) (fun c68 => ?_) (fun c68 => ?_)
            · refine ta_iconst C 0 dX8_steps_61 (by decide) ?_
              refine ta_iadd C (a := y0) (b := 0) dX8_steps_62 ?_
              refine ta_nv (y := y0) (Nat.add_zero _) ?_
              refine lv_istore (lv' := [(4, .int (nI y0)), (3, .int (nI (x0 - 1))), (2, .int (nI (t 0))), (0, .ref (z 0)), (1, .int (nI 3))]) hx hb dX8_steps_63 hl (by decide) rfl (fun ls hl => ?_)
              refine lv_iload_n hx hb dX8_steps_65 rfl (lv_at hl 1 rfl) ?_
              refine ta_iconst C 0 dX8_steps_66 (by decide) ?_
              refine lv_iload_n hx hb dX8_steps_67 rfl (lv_at hl 2 rfl) ?_
              refine ta_iconst C 1 dX8_steps_68 (by decide) ?_
              refine ta_isub C (a := t 0) (b := 1) (by omega) dX8_steps_69 ?_
              refine ta_callSi (As := [.int (nI (x0 - 1)), .int (nI 0), .int (nI ((t 0) - 1))]) (rest0 := []) (Wr := [(z 0, .inr (8, [.ref (z 1), .int (nI ty), .ref (z 2), .ref (z 3), .ref (z 4), .ref (z 5), .int (nI kn), .ref (z 6), .ref (z 7), .ref (z 8), .int (nI no), .int (nI at_), .int (nI so), .int (nI sr), .int (nI va), .ref (z 9)])), (z 2, .inl (k.1 0, 23, .inl (ta_e t))), (z 4, .inl (k.1 0, 66, .inl (ta_e g)))]) C hP hD hS (c_X8_in l D k (x0 - 1) 0 ((t 0) - 1) (by omega) (by omega) (by omega)) [] [0, 1, 2] rfl rfl (by decide) (by decide) (by decide) tw_159 tw_157 tw_5 tw_158 ⟨by decide, by decide, rfl⟩ ⟨Nat.le_of_ble_eq_true rfl, Nat.le_of_ble_eq_true rfl⟩ ⟨Nat.zero_le _, Nat.zero_le _⟩ hl.1 rfl (Nat.le_of_ble_eq_true rfl) dX8_steps_70 (fun r69 u70 H locs h71 hP hD hS => ?_)
              rcases h71 with h0 | h0
              · obtain ⟨hi72, rfl⟩ := h0
                have hP : va_P D vwCl [(z 0, .inr (8, [.ref (z 1), .int (nI ty), .ref (z 2), .ref (z 3), .ref (z 4), .ref (z 5), .int (nI kn), .ref (z 6), .ref (z 7), .ref (z 8), .int (nI no), .int (nI at_), .int (nI so), .int (nI sr), .int (nI va), .ref (z 9)])), (z 2, .inl (k.1 0, 23, .inl (ta_e t))), (z 4, .inl (k.1 0, 66, .inl (ta_e g)))] H := hP
                have hD : va_D A [(z 0, .inr (8, [.ref (z 1), .int (nI ty), .ref (z 2), .ref (z 3), .ref (z 4), .ref (z 5), .int (nI kn), .ref (z 6), .ref (z 7), .ref (z 8), .int (nI no), .int (nI at_), .int (nI so), .int (nI sr), .int (nI va), .ref (z 9)])), (z 2, .inl (k.1 0, 23, .inl (ta_e t))), (z 4, .inl (k.1 0, 66, .inl (ta_e g)))] := hD
                refine lv_if_eq (tgt := 126) hx hb dX8_steps_73 (by decide) (fun c73 => ?_) (fun c73 => ?_)
                · exact absurd c73 (by decide)
                · refine lv_iload hx hb dX8_steps_76 (lv_at hl 0 rfl) ?_
                  refine ta_iconst C 0 dX8_steps_78 (by decide) ?_
                  refine lv_aload_n hx hb dX8_steps_79 rfl (lv_at hl 3 rfl) ?_
                  refine ta_get C hP 0 inlX8 rfl rfl 2 (by decide) tw_126 rfl dX8_steps_80 ?_
                  refine ta_iconst C 1 dX8_steps_83 (by decide) ?_
                  refine ta_iald C hP 1 rfl (i := 1) (by omega) dX8_steps_84 ?_
                  refine ta_iconst C 1 dX8_steps_85 (by decide) ?_
                  refine ta_isub C (a := t 1) (b := 1) (by omega) dX8_steps_86 ?_
                  refine ta_callSi (As := [.int (nI y0), .int (nI 0), .int (nI ((t 1) - 1))]) (rest0 := []) (Wr := [(z 0, .inr (8, [.ref (z 1), .int (nI ty), .ref (z 2), .ref (z 3), .ref (z 4), .ref (z 5), .int (nI kn), .ref (z 6), .ref (z 7), .ref (z 8), .int (nI no), .int (nI at_), .int (nI so), .int (nI sr), .int (nI va), .ref (z 9)])), (z 2, .inl (k.1 0, 23, .inl (ta_e t))), (z 4, .inl (k.1 0, 66, .inl (ta_e g)))]) C hP hD hS (c_X8_in l D k y0 0 ((t 1) - 1) (by omega) (by omega) (by omega)) [] [0, 1, 2] rfl rfl (by decide) (by decide) (by decide) tw_159 tw_157 tw_5 tw_158 ⟨by decide, by decide, rfl⟩ ⟨Nat.le_of_ble_eq_true rfl, Nat.le_of_ble_eq_true rfl⟩ ⟨Nat.zero_le _, Nat.zero_le _⟩ hl.1 rfl (Nat.le_of_ble_eq_true rfl) dX8_steps_87 (fun r74 u75 H locs h76 hP hD hS => ?_)
                  rcases h76 with h0 | h0
                  · obtain ⟨hi77, rfl⟩ := h0
                    have hP : va_P D vwCl [(z 0, .inr (8, [.ref (z 1), .int (nI ty), .ref (z 2), .ref (z 3), .ref (z 4), .ref (z 5), .int (nI kn), .ref (z 6), .ref (z 7), .ref (z 8), .int (nI no), .int (nI at_), .int (nI so), .int (nI sr), .int (nI va), .ref (z 9)])), (z 2, .inl (k.1 0, 23, .inl (ta_e t))), (z 4, .inl (k.1 0, 66, .inl (ta_e g)))] H := hP
                    have hD : va_D A [(z 0, .inr (8, [.ref (z 1), .int (nI ty), .ref (z 2), .ref (z 3), .ref (z 4), .ref (z 5), .int (nI kn), .ref (z 6), .ref (z 7), .ref (z 8), .int (nI no), .int (nI at_), .int (nI so), .int (nI sr), .int (nI va), .ref (z 9)])), (z 2, .inl (k.1 0, 23, .inl (ta_e t))), (z 4, .inl (k.1 0, 66, .inl (ta_e g)))] := hD
                    refine lv_if_eq (tgt := 126) hx hb dX8_steps_90 (by decide) (fun c78 => ?_) (fun c78 => ?_)
                    · exact absurd c78 (by decide)
                    · refine lv_aload_n hx hb dX8_steps_93 rfl (lv_at hl 3 rfl) ?_
                      refine ta_get C hP 0 inlX8 rfl rfl 4 (by decide) tw_128 rfl dX8_steps_94 ?_
                      refine ta_iconst C 2 dX8_steps_97 (by decide) ?_
                      refine lv_iload_n hx hb dX8_steps_98 rfl (lv_at hl 2 rfl) ?_
                      refine lv_iload hx hb dX8_steps_99 (lv_at hl 0 rfl) ?_
                      refine ta_imul C (a := t 0) (b := y0) dX8_steps_101 ?_
                      refine lv_iload_n hx hb dX8_steps_102 rfl (lv_at hl 1 rfl) ?_
                      refine ta_iadd C (a := (t 0) * y0) (b := x0 - 1) dX8_steps_103 ?_
                      have hlt : t 0 * y0 + (x0 - 1) < 36 := Nat.lt_of_lt_of_le (tg_lt (w := t 0) (h := t 1) (by omega) (by omega)) (tg_36 (by omega) (by omega))
                      refine ta_iast C hP hD hS 2 rfl (i := 2) (v := ((t 0) * y0) + (x0 - 1)) (by omega) dX8_steps_104 (fun H locs hP hD hS => ?_)
                      have hP : va_P D vwCl [(z 0, .inr (8, [.ref (z 1), .int (nI ty), .ref (z 2), .ref (z 3), .ref (z 4), .ref (z 5), .int (nI kn), .ref (z 6), .ref (z 7), .ref (z 8), .int (nI no), .int (nI at_), .int (nI so), .int (nI sr), .int (nI va), .ref (z 9)])), (z 2, .inl (k.1 0, 23, .inl (ta_e t))), (z 4, .inl (k.1 0, 66, .inl (ta_e (ta_u g 2 (((t 0) * y0) + (x0 - 1))))))] H := hP
                      have hD : va_D A [(z 0, .inr (8, [.ref (z 1), .int (nI ty), .ref (z 2), .ref (z 3), .ref (z 4), .ref (z 5), .int (nI kn), .ref (z 6), .ref (z 7), .ref (z 8), .int (nI no), .int (nI at_), .int (nI so), .int (nI sr), .int (nI va), .ref (z 9)])), (z 2, .inl (k.1 0, 23, .inl (ta_e t))), (z 4, .inl (k.1 0, 66, .inl (ta_e (ta_u g 2 (((t 0) * y0) + (x0 - 1))))))] := hD
                      refine lv_aload_n hx hb dX8_steps_105 rfl (lv_at hl 3 rfl) ?_
                      refine ta_get C hP 0 inlX8 rfl rfl 4 (by decide) tw_128 rfl dX8_steps_106 ?_
                      refine ta_bipush C 30 dX8_steps_109 (by decide) ?_
                      refine lv_aload_n hx hb dX8_steps_111 rfl (lv_at hl 3 rfl) ?_
                      refine ta_get C hP 0 inlX8 rfl rfl 4 (by decide) tw_128 rfl dX8_steps_112 ?_
                      refine ta_iconst C 2 dX8_steps_115 (by decide) ?_
                      refine ta_iald C hP 2 rfl (i := 2) (by omega) dX8_steps_116 ?_
                      refine ta_nv (y := ((t 0) * y0) + (x0 - 1)) ta_us ?_
                      refine ta_iadd C (a := 30) (b := ((t 0) * y0) + (x0 - 1)) dX8_steps_117 ?_
                      refine lv_dup2_11 hx hb dX8_steps_118 rfl rfl ?_
                      refine ta_iald C hP 2 rfl (i := 30 + (((t 0) * y0) + (x0 - 1))) (by omega) dX8_steps_119 ?_
                      refine ta_iconst C 1 dX8_steps_120 (by decide) ?_
                      refine ta_iadd C (a := (ta_u g 2 (((t 0) * y0) + (x0 - 1))) (30 + (((t 0) * y0) + (x0 - 1)))) (b := 1) dX8_steps_121 ?_
                      refine ta_iast C hP hD hS 2 rfl (i := 30 + (((t 0) * y0) + (x0 - 1))) (v := ((ta_u g 2 (((t 0) * y0) + (x0 - 1))) (30 + (((t 0) * y0) + (x0 - 1)))) + 1) (by omega) dX8_steps_122 (fun H locs hP hD hS => ?_)
                      have hP : va_P D vwCl [(z 0, .inr (8, [.ref (z 1), .int (nI ty), .ref (z 2), .ref (z 3), .ref (z 4), .ref (z 5), .int (nI kn), .ref (z 6), .ref (z 7), .ref (z 8), .int (nI no), .int (nI at_), .int (nI so), .int (nI sr), .int (nI va), .ref (z 9)])), (z 2, .inl (k.1 0, 23, .inl (ta_e t))), (z 4, .inl (k.1 0, 66, .inl (ta_e (ta_u (ta_u g 2 (((t 0) * y0) + (x0 - 1))) (30 + (((t 0) * y0) + (x0 - 1))) (((ta_u g 2 (((t 0) * y0) + (x0 - 1))) (30 + (((t 0) * y0) + (x0 - 1)))) + 1)))))] H := hP
                      have hD : va_D A [(z 0, .inr (8, [.ref (z 1), .int (nI ty), .ref (z 2), .ref (z 3), .ref (z 4), .ref (z 5), .int (nI kn), .ref (z 6), .ref (z 7), .ref (z 8), .int (nI no), .int (nI at_), .int (nI so), .int (nI sr), .int (nI va), .ref (z 9)])), (z 2, .inl (k.1 0, 23, .inl (ta_e t))), (z 4, .inl (k.1 0, 66, .inl (ta_e (ta_u (ta_u g 2 (((t 0) * y0) + (x0 - 1))) (30 + (((t 0) * y0) + (x0 - 1))) (((ta_u g 2 (((t 0) * y0) + (x0 - 1))) (30 + (((t 0) * y0) + (x0 - 1)))) + 1)))))] := hD
                      refine lv_goto (tgt := 139) hx hb dX8_steps_123 (by decide) ?_
                      have e : ta_u (ta_u g 2 (((t 0) * y0) + (x0 - 1))) (30 + (((t 0) * y0) + (x0 - 1))) (((ta_u g 2 (((t 0) * y0) + (x0 - 1))) (30 + (((t 0) * y0) + (x0 - 1)))) + 1) = tg_step t g 3 := by
                        rw [tg_step3, ← hy0, ← hx0]
                        have e2 : ta_u (ta_u g 2 (((t 0) * y0) + (x0 - 1))) (30 + (((t 0) * y0) + (x0 - 1))) (((ta_u g 2 (((t 0) * y0) + (x0 - 1))) (30 + (((t 0) * y0) + (x0 - 1)))) + 1) = tg_mv t g y0 (x0 - 1) := by unfold tg_mv; rw [ta_un (by omega)]
                        rw [e2]
                        first | exact (if_pos (by omega)).symm | exact (if_neg (by omega)).symm
                      rw [e] at hP hD
                      exact ret () dX8_steps_139 trivial (hP.sub [0, 1, 2] rfl) (hD.sub [0, 1, 2] (by decide) rfl) hS
                  · obtain ⟨hi79, rfl⟩ := h0
                    have hP : va_P D vwCl [(z 0, .inr (8, [.ref (z 1), .int (nI ty), .ref (z 2), .ref (z 3), .ref (z 4), .ref (z 5), .int (nI kn), .ref (z 6), .ref (z 7), .ref (z 8), .int (nI no), .int (nI at_), .int (nI so), .int (nI sr), .int (nI va), .ref (z 9)])), (z 2, .inl (k.1 0, 23, .inl (ta_e t))), (z 4, .inl (k.1 0, 66, .inl (ta_e g)))] H := hP
                    have hD : va_D A [(z 0, .inr (8, [.ref (z 1), .int (nI ty), .ref (z 2), .ref (z 3), .ref (z 4), .ref (z 5), .int (nI kn), .ref (z 6), .ref (z 7), .ref (z 8), .int (nI no), .int (nI at_), .int (nI so), .int (nI sr), .int (nI va), .ref (z 9)])), (z 2, .inl (k.1 0, 23, .inl (ta_e t))), (z 4, .inl (k.1 0, 66, .inl (ta_e g)))] := hD
                    exfalso; have h9 := hi79; omega
              · obtain ⟨hi80, rfl⟩ := h0
                have hP : va_P D vwCl [(z 0, .inr (8, [.ref (z 1), .int (nI ty), .ref (z 2), .ref (z 3), .ref (z 4), .ref (z 5), .int (nI kn), .ref (z 6), .ref (z 7), .ref (z 8), .int (nI no), .int (nI at_), .int (nI so), .int (nI sr), .int (nI va), .ref (z 9)])), (z 2, .inl (k.1 0, 23, .inl (ta_e t))), (z 4, .inl (k.1 0, 66, .inl (ta_e g)))] H := hP
                have hD : va_D A [(z 0, .inr (8, [.ref (z 1), .int (nI ty), .ref (z 2), .ref (z 3), .ref (z 4), .ref (z 5), .int (nI kn), .ref (z 6), .ref (z 7), .ref (z 8), .int (nI no), .int (nI at_), .int (nI so), .int (nI sr), .int (nI va), .ref (z 9)])), (z 2, .inl (k.1 0, 23, .inl (ta_e t))), (z 4, .inl (k.1 0, 66, .inl (ta_e g)))] := hD
                exfalso; have h9 := hi80; omega
            · exact absurd c68 (by decide)
          · exact absurd c67 (by decide)
    · exact absurd c59 (by decide)

set_option maxHeartbeats 4000000 in
set_option maxRecDepth 100000 in
theorem c_X8_begins (l : Launch) (D : va_G) (k : ta_C) (z : Nat → Nat) (ty : Nat) (kn : Nat) (no : Nat) (at_ : Nat) (so : Nat) (sr : Nat) (va : Nat) (g : Nat → Nat) (a : Nat) (ha : a < 2) (hn0 : 0 < g (6 + a)) (hn8 : g (6 + a) ≤ 8) (hfg : g (8 + 8 * a) < 50) : ta_Mv (S := Unit) l D k yX8_begins cX8_begins 4 1 40 [.ref (z 0), .int (nI a)] [(z 0, .inr (8, [.ref (z 1), .int (nI ty), .ref (z 2), .ref (z 3), .ref (z 4), .ref (z 5), .int (nI kn), .ref (z 6), .ref (z 7), .ref (z 8), .int (nI no), .int (nI at_), .int (nI so), .int (nI sr), .int (nI va), .ref (z 9)])), (z 4, .inl (k.1 0, 66, .inl (ta_e g)))] (fun _ => True) (fun u => [(z 0, .inr (8, [.ref (z 1), .int (nI ty), .ref (z 2), .ref (z 3), .ref (z 4), .ref (z 5), .int (nI kn), .ref (z 6), .ref (z 7), .ref (z 8), .int (nI no), .int (nI at_), .int (nI so), .int (nI sr), .int (nI va), .ref (z 9)])), (z 4, .inl (k.1 0, 66, .inl (ta_e (tg_begin g a))))]) := by
  refine ta_enter_v (by decide) (Nat.le_of_ble_eq_true rfl) ?_
  intro p e s m below meth c A ls Q C ret hP hD hS hl
  have C : ta_At p l D k s m ([.ref (z 0), .int (nI a)] : List Value).toArray c RX8 cX8_begins 4 A := C
  have hx := C.1.1
  have hb := C.1.2.1
  have hl : lv_has ls 4 [(0, .ref (z 0)), (1, .int (nI a))] := hl
  obtain ⟨H, hH⟩ : ∃ H, H = s.heap := ⟨_, rfl⟩
  obtain ⟨locs, hlocs⟩ : ∃ q : List Loc, q = [] := ⟨_, rfl⟩
  have hP : va_P D vwCl [(z 0, .inr (8, [.ref (z 1), .int (nI ty), .ref (z 2), .ref (z 3), .ref (z 4), .ref (z 5), .int (nI kn), .ref (z 6), .ref (z 7), .ref (z 8), .int (nI no), .int (nI at_), .int (nI so), .int (nI sr), .int (nI va), .ref (z 9)])), (z 4, .inl (k.1 0, 66, .inl (ta_e g)))] H := by rw [hH]; exact hP
  have hS : va_S A s.heap H locs := by rw [hH, hlocs]; exact hS
  rw [← hlocs]
  suffices hgoal : W p l e ({ frames := 1, cells := 0, slots := 0, locals := 40 }) s m ([.ref (z 0), .int (nI a)] : List Value).toArray below meth c H locs 0 0 Q (F0 m 0 ls []) by rw [hH] at hgoal; exact hgoal
  clear hH hlocs
  refine lv_aload_n hx hb dX8_begins_0 rfl (lv_at hl 0 rfl) ?_
  refine ta_get C hP 0 inlX8 rfl rfl 4 (by decide) tw_128 rfl dX8_begins_1 ?_
  refine lv_aload_n hx hb dX8_begins_4 rfl (lv_at hl 0 rfl) ?_
  refine lv_iload_n hx hb dX8_begins_5 rfl (lv_at hl 1 rfl) ?_
  refine ta_iconst C 0 dX8_begins_6 (by decide) ?_
  refine ta_callVi (As := [.int (nI a), .int (nI 0)]) (rest0 := [.ref (z 4)]) (Wr := [(z 4, .inl (k.1 0, 66, .inl (ta_e g)))]) C hP hD hS (c_X8_next l D k z ty kn no at_ so sr va a 0) 0 rfl rfl rfl [0] [1] rfl rfl (by decide) (by decide) (by decide) tw_393 tw_390 tw_5 tw_391 tw_392 ⟨by decide, by decide, rfl⟩ ⟨Nat.le_of_ble_eq_true rfl, Nat.le_of_ble_eq_true rfl⟩ ⟨Nat.zero_le _, Nat.zero_le _⟩ hl.1 rfl (Nat.le_of_ble_eq_true rfl) dX8_begins_7 (fun r1 u2 H locs h3 hP hD hS => ?_)
  obtain rfl := h3
  have hP : va_P D vwCl [(z 4, .inl (k.1 0, 66, .inl (ta_e g))), (z 0, .inr (8, [.ref (z 1), .int (nI ty), .ref (z 2), .ref (z 3), .ref (z 4), .ref (z 5), .int (nI kn), .ref (z 6), .ref (z 7), .ref (z 8), .int (nI no), .int (nI at_), .int (nI so), .int (nI sr), .int (nI va), .ref (z 9)]))] H := hP
  have hD : va_D A [(z 4, .inl (k.1 0, 66, .inl (ta_e g))), (z 0, .inr (8, [.ref (z 1), .int (nI ty), .ref (z 2), .ref (z 3), .ref (z 4), .ref (z 5), .int (nI kn), .ref (z 6), .ref (z 7), .ref (z 8), .int (nI no), .int (nI at_), .int (nI so), .int (nI sr), .int (nI va), .ref (z 9)]))] := hD
  refine ta_iald C hP 0 rfl (i := 8 + 8 * a + 0) (by omega) dX8_begins_10 ?_
  refine ta_nv (y := g (8 + 8 * a)) (by rw [Nat.add_zero]) ?_
  refine lv_istore_n (lv' := [(2, .int (nI (g (8 + 8 * a)))), (0, .ref (z 0)), (1, .int (nI a))]) hx hb dX8_begins_11 rfl hl (by decide) rfl (fun ls hl => ?_)
  refine lv_aload_n hx hb dX8_begins_12 rfl (lv_at hl 1 rfl) ?_
  refine ta_get C hP 1 inlX8 rfl rfl 4 (by decide) tw_128 rfl dX8_begins_13 ?_
  refine ta_bipush C 6 dX8_begins_16 (by decide) ?_
  refine lv_iload_n hx hb dX8_begins_18 rfl (lv_at hl 2 rfl) ?_
  refine ta_iadd C (a := 6) (b := a) dX8_begins_19 ?_
  refine lv_dup2_11 hx hb dX8_begins_20 rfl rfl ?_
  refine ta_iald C hP 0 rfl (i := 6 + a) (by omega) dX8_begins_21 ?_
  refine ta_iconst C 1 dX8_begins_22 (by decide) ?_
  refine ta_isub C (a := g (6 + a)) (b := 1) (by omega) dX8_begins_23 ?_
  refine ta_iast C hP hD hS 0 rfl (i := 6 + a) (v := (g (6 + a)) - 1) (by omega) dX8_begins_24 (fun H locs hP hD hS => ?_)
  have hP : va_P D vwCl [(z 4, .inl (k.1 0, 66, .inl (ta_e (ta_u g (6 + a) ((g (6 + a)) - 1))))), (z 0, .inr (8, [.ref (z 1), .int (nI ty), .ref (z 2), .ref (z 3), .ref (z 4), .ref (z 5), .int (nI kn), .ref (z 6), .ref (z 7), .ref (z 8), .int (nI no), .int (nI at_), .int (nI so), .int (nI sr), .int (nI va), .ref (z 9)]))] H := hP
  have hD : va_D A [(z 4, .inl (k.1 0, 66, .inl (ta_e (ta_u g (6 + a) ((g (6 + a)) - 1))))), (z 0, .inr (8, [.ref (z 1), .int (nI ty), .ref (z 2), .ref (z 3), .ref (z 4), .ref (z 5), .int (nI kn), .ref (z 6), .ref (z 7), .ref (z 8), .int (nI no), .int (nI at_), .int (nI so), .int (nI sr), .int (nI va), .ref (z 9)]))] := hD
  refine ta_iconst C 0 dX8_begins_25 (by decide) ?_
  refine lv_istore_n (lv' := [(3, .int (nI 0)), (2, .int (nI (g (8 + 8 * a)))), (0, .ref (z 0)), (1, .int (nI a))]) hx hb dX8_begins_26 rfl hl (by decide) rfl (fun ls hl => ?_)
  have loop_27 : ∀ (N_27 : Nat) (i : Nat) (f2 : Nat → Nat), (i ≤ g (6 + a) - 1) → (f2 = va_cpy (ta_u g (6 + a) (g (6 + a) - 1)) (ta_u g (6 + a) (g (6 + a) - 1)) (9 + 8 * a) (8 + 8 * a) i) → 8 - i < N_27 → ∀ (H : Heap) (locs : List Loc) (ls : Array Slot), va_P D vwCl [(z 0, .inr (8, [.ref (z 1), .int (nI ty), .ref (z 2), .ref (z 3), .ref (z 4), .ref (z 5), .int (nI kn), .ref (z 6), .ref (z 7), .ref (z 8), .int (nI no), .int (nI at_), .int (nI so), .int (nI sr), .int (nI va), .ref (z 9)])), (z 4, .inl (k.1 0, 66, .inl (ta_e f2)))] H → va_D A [(z 0, .inr (8, [.ref (z 1), .int (nI ty), .ref (z 2), .ref (z 3), .ref (z 4), .ref (z 5), .int (nI kn), .ref (z 6), .ref (z 7), .ref (z 8), .int (nI no), .int (nI at_), .int (nI so), .int (nI sr), .int (nI va), .ref (z 9)])), (z 4, .inl (k.1 0, 66, .inl (ta_e f2)))] → va_S A s.heap H locs → lv_has ls 4 [(3, .int (nI i)), (2, .int (nI (g (8 + 8 * a)))), (0, .ref (z 0)), (1, .int (nI a))] → W p l e ({ frames := 1, cells := 0, slots := 0, locals := 40 }) s m ([.ref (z 0), .int (nI a)] : List Value).toArray below meth c H locs 0 0 Q (F0 m 27 ls []) := by
    clear hP hD hS hl
    intro N_27
    induction N_27 with
    | zero =>
      intro i f2 h1 h2 hf_27
      exact absurd hf_27 (Nat.not_lt_zero _)
    | succ N_27 ih_27 =>
      intro i f2 h1 h2 hf_27 H locs ls hP hD hS hl
      refine lv_iload_n hx hb dX8_begins_27 rfl (lv_at hl 0 rfl) ?_
      refine lv_aload_n hx hb dX8_begins_28 rfl (lv_at hl 2 rfl) ?_
      refine ta_get C hP 0 inlX8 rfl rfl 4 (by decide) tw_128 rfl dX8_begins_29 ?_
      refine ta_bipush C 6 dX8_begins_32 (by decide) ?_
      refine lv_iload_n hx hb dX8_begins_34 rfl (lv_at hl 3 rfl) ?_
      refine ta_iadd C (a := 6) (b := a) dX8_begins_35 ?_
      refine ta_iald C hP 1 rfl (i := 6 + a) (by omega) dX8_begins_36 ?_
      refine ta_nv (y := g (6 + a) - 1) (by rw [h2, pk_cpy_out (by omega), ta_us]) ?_
      refine ta_cge C (a := i) (b := g (6 + a) - 1) (tgt := 70) (by omega) (by omega) dX8_begins_37 (by decide) (fun c4 => ?_) (fun c4 => ?_)
      · refine lv_aload_n hx hb dX8_begins_70 rfl (lv_at hl 2 rfl) ?_
        refine ta_get C hP 0 inlX8 rfl rfl 4 (by decide) tw_128 rfl dX8_begins_71 ?_
        refine ta_iconst C 4 dX8_begins_74 (by decide) ?_
        refine lv_iload_n hx hb dX8_begins_75 rfl (lv_at hl 1 rfl) ?_
        refine ta_bipush C 10 dX8_begins_76 (by decide) ?_
        refine ta_idiv C (a := g (8 + 8 * a)) (b := 10) (by omega) (by omega) (by omega) dX8_begins_78 ?_
        refine ta_iast C hP hD hS 1 rfl (i := 4) (v := (g (8 + 8 * a)) / 10) (by omega) dX8_begins_79 (fun H locs hP hD hS => ?_)
        have hP : va_P D vwCl [(z 0, .inr (8, [.ref (z 1), .int (nI ty), .ref (z 2), .ref (z 3), .ref (z 4), .ref (z 5), .int (nI kn), .ref (z 6), .ref (z 7), .ref (z 8), .int (nI no), .int (nI at_), .int (nI so), .int (nI sr), .int (nI va), .ref (z 9)])), (z 4, .inl (k.1 0, 66, .inl (ta_e (ta_u f2 4 ((g (8 + 8 * a)) / 10)))))] H := hP
        have hD : va_D A [(z 0, .inr (8, [.ref (z 1), .int (nI ty), .ref (z 2), .ref (z 3), .ref (z 4), .ref (z 5), .int (nI kn), .ref (z 6), .ref (z 7), .ref (z 8), .int (nI no), .int (nI at_), .int (nI so), .int (nI sr), .int (nI va), .ref (z 9)])), (z 4, .inl (k.1 0, 66, .inl (ta_e (ta_u f2 4 ((g (8 + 8 * a)) / 10)))))] := hD
        refine lv_aload_n hx hb dX8_begins_80 rfl (lv_at hl 2 rfl) ?_
        refine ta_get C hP 0 inlX8 rfl rfl 4 (by decide) tw_128 rfl dX8_begins_81 ?_
        refine ta_iconst C 5 dX8_begins_84 (by decide) ?_
        refine lv_iload_n hx hb dX8_begins_85 rfl (lv_at hl 1 rfl) ?_
        refine ta_bipush C 10 dX8_begins_86 (by decide) ?_
        refine ta_irem C (a := g (8 + 8 * a)) (b := 10) (by omega) (by omega) (by omega) dX8_begins_88 ?_
        refine ta_iast C hP hD hS 1 rfl (i := 5) (v := (g (8 + 8 * a)) % 10) (by omega) dX8_begins_89 (fun H locs hP hD hS => ?_)
        have hP : va_P D vwCl [(z 0, .inr (8, [.ref (z 1), .int (nI ty), .ref (z 2), .ref (z 3), .ref (z 4), .ref (z 5), .int (nI kn), .ref (z 6), .ref (z 7), .ref (z 8), .int (nI no), .int (nI at_), .int (nI so), .int (nI sr), .int (nI va), .ref (z 9)])), (z 4, .inl (k.1 0, 66, .inl (ta_e (ta_u (ta_u f2 4 ((g (8 + 8 * a)) / 10)) 5 ((g (8 + 8 * a)) % 10)))))] H := hP
        have hD : va_D A [(z 0, .inr (8, [.ref (z 1), .int (nI ty), .ref (z 2), .ref (z 3), .ref (z 4), .ref (z 5), .int (nI kn), .ref (z 6), .ref (z 7), .ref (z 8), .int (nI no), .int (nI at_), .int (nI so), .int (nI sr), .int (nI va), .ref (z 9)])), (z 4, .inl (k.1 0, 66, .inl (ta_e (ta_u (ta_u f2 4 ((g (8 + 8 * a)) / 10)) 5 ((g (8 + 8 * a)) % 10)))))] := hD
        have e : ta_u (ta_u f2 4 ((g (8 + 8 * a)) / 10)) 5 ((g (8 + 8 * a)) % 10) = tg_begin g a := by rw [h2, show i = g (6 + a) - 1 by omega]; rfl
        rw [e] at hP hD
        exact ret () dX8_begins_90 trivial (hP.sub [0, 1] rfl) (hD.sub [0, 1] (by decide) rfl) hS
      · refine lv_aload_n hx hb dX8_begins_40 rfl (lv_at hl 2 rfl) ?_
        refine ta_get C hP 0 inlX8 rfl rfl 4 (by decide) tw_128 rfl dX8_begins_41 ?_
        refine lv_aload_n hx hb dX8_begins_44 rfl (lv_at hl 2 rfl) ?_
        refine lv_iload_n hx hb dX8_begins_45 rfl (lv_at hl 3 rfl) ?_
        refine lv_iload_n hx hb dX8_begins_46 rfl (lv_at hl 0 rfl) ?_
        refine ta_callVi (As := [.int (nI a), .int (nI i)]) (rest0 := [.ref (z 4)]) (Wr := [(z 4, .inl (k.1 0, 66, .inl (ta_e f2)))]) C hP hD hS (c_X8_next l D k z ty kn no at_ so sr va a i) 0 rfl rfl rfl [0] [1] rfl rfl (by decide) (by decide) (by decide) tw_393 tw_390 tw_5 tw_391 tw_392 ⟨by decide, by decide, rfl⟩ ⟨Nat.le_of_ble_eq_true rfl, Nat.le_of_ble_eq_true rfl⟩ ⟨Nat.zero_le _, Nat.zero_le _⟩ hl.1 rfl (Nat.le_of_ble_eq_true rfl) dX8_begins_47 (fun r5 u6 H locs h7 hP hD hS => ?_)
        obtain rfl := h7
        have hP : va_P D vwCl [(z 4, .inl (k.1 0, 66, .inl (ta_e f2))), (z 0, .inr (8, [.ref (z 1), .int (nI ty), .ref (z 2), .ref (z 3), .ref (z 4), .ref (z 5), .int (nI kn), .ref (z 6), .ref (z 7), .ref (z 8), .int (nI no), .int (nI at_), .int (nI so), .int (nI sr), .int (nI va), .ref (z 9)]))] H := hP
        have hD : va_D A [(z 4, .inl (k.1 0, 66, .inl (ta_e f2))), (z 0, .inr (8, [.ref (z 1), .int (nI ty), .ref (z 2), .ref (z 3), .ref (z 4), .ref (z 5), .int (nI kn), .ref (z 6), .ref (z 7), .ref (z 8), .int (nI no), .int (nI at_), .int (nI so), .int (nI sr), .int (nI va), .ref (z 9)]))] := hD
        refine lv_aload_n hx hb dX8_begins_50 rfl (lv_at hl 2 rfl) ?_
        refine ta_get C hP 1 inlX8 rfl rfl 4 (by decide) tw_128 rfl dX8_begins_51 ?_
        refine lv_aload_n hx hb dX8_begins_54 rfl (lv_at hl 2 rfl) ?_
        refine lv_iload_n hx hb dX8_begins_55 rfl (lv_at hl 3 rfl) ?_
        refine lv_iload_n hx hb dX8_begins_56 rfl (lv_at hl 0 rfl) ?_
        refine ta_iconst C 1 dX8_begins_57 (by decide) ?_
        refine ta_iadd C (a := i) (b := 1) dX8_begins_58 ?_
        refine ta_callVi (As := [.int (nI a), .int (nI (i + 1))]) (rest0 := [.ref (z 4), .int (nI (8 + 8 * a + i)), .ref (z 4)]) (Wr := [(z 4, .inl (k.1 0, 66, .inl (ta_e f2)))]) C hP hD hS (c_X8_next l D k z ty kn no at_ so sr va a (i + 1)) 1 rfl rfl rfl [1] [0] rfl rfl (by decide) (by decide) (by decide) tw_393 tw_390 tw_5 tw_391 tw_392 ⟨by decide, by decide, rfl⟩ ⟨Nat.le_of_ble_eq_true rfl, Nat.le_of_ble_eq_true rfl⟩ ⟨Nat.zero_le _, Nat.zero_le _⟩ hl.1 rfl (Nat.le_of_ble_eq_true rfl) dX8_begins_59 (fun r8 u9 H locs h10 hP hD hS => ?_)
        obtain rfl := h10
        have hP : va_P D vwCl [(z 4, .inl (k.1 0, 66, .inl (ta_e f2))), (z 0, .inr (8, [.ref (z 1), .int (nI ty), .ref (z 2), .ref (z 3), .ref (z 4), .ref (z 5), .int (nI kn), .ref (z 6), .ref (z 7), .ref (z 8), .int (nI no), .int (nI at_), .int (nI so), .int (nI sr), .int (nI va), .ref (z 9)]))] H := hP
        have hD : va_D A [(z 4, .inl (k.1 0, 66, .inl (ta_e f2))), (z 0, .inr (8, [.ref (z 1), .int (nI ty), .ref (z 2), .ref (z 3), .ref (z 4), .ref (z 5), .int (nI kn), .ref (z 6), .ref (z 7), .ref (z 8), .int (nI no), .int (nI at_), .int (nI so), .int (nI sr), .int (nI va), .ref (z 9)]))] := hD
        refine ta_iald C hP 0 rfl (i := 8 + 8 * a + (i + 1)) (by omega) dX8_begins_62 ?_
        refine ta_iast C hP hD hS 0 rfl (i := 8 + 8 * a + i) (v := f2 (8 + 8 * a + (i + 1))) (by omega) dX8_begins_63 (fun H locs hP hD hS => ?_)
        have hP : va_P D vwCl [(z 4, .inl (k.1 0, 66, .inl (ta_e (ta_u f2 (8 + 8 * a + i) (f2 (8 + 8 * a + (i + 1))))))), (z 0, .inr (8, [.ref (z 1), .int (nI ty), .ref (z 2), .ref (z 3), .ref (z 4), .ref (z 5), .int (nI kn), .ref (z 6), .ref (z 7), .ref (z 8), .int (nI no), .int (nI at_), .int (nI so), .int (nI sr), .int (nI va), .ref (z 9)]))] H := hP
        have hD : va_D A [(z 4, .inl (k.1 0, 66, .inl (ta_e (ta_u f2 (8 + 8 * a + i) (f2 (8 + 8 * a + (i + 1))))))), (z 0, .inr (8, [.ref (z 1), .int (nI ty), .ref (z 2), .ref (z 3), .ref (z 4), .ref (z 5), .int (nI kn), .ref (z 6), .ref (z 7), .ref (z 8), .int (nI no), .int (nI at_), .int (nI so), .int (nI sr), .int (nI va), .ref (z 9)]))] := hD
        refine lv_iinc (v := nI (i + 1)) (lv' := [(3, .int (nI (i + 1))), (2, .int (nI (g (8 + 8 * a)))), (0, .ref (z 0)), (1, .int (nI a))]) hx hb dX8_begins_64 hl (k := 0) rfl (ta_inc1 _) (by decide) rfl (fun ls hl => ?_)
        refine lv_goto (tgt := 27) hx hb dX8_begins_67 (by decide) ?_
        exact ih_27 (i + 1) (ta_u f2 (8 + 8 * a + i) (f2 (8 + 8 * a + (i + 1)))) (by omega) (by rw [h2]; exact ta_cpys _ _ _) (by omega) _ _ _ (hP.sub [1, 0] rfl) (hD.sub [1, 0] (by decide) rfl) hS (lv_sub hl [0, 1, 2, 3] rfl)
  exact loop_27 ((8 - 0) + 1) 0 (ta_u g (6 + a) (g (6 + a) - 1)) (by omega) (ta_cpy0 _ _ _).symm (Nat.lt_succ_self _) _ _ _ (hP.sub [1, 0] rfl) (hD.sub [1, 0] (by decide) rfl) hS (lv_sub hl [0, 1, 2, 3] rfl)

set_option maxHeartbeats 4000000 in
set_option maxRecDepth 100000 in
theorem c_X8_winds (l : Launch) (D : va_G) (k : ta_C) (z : Nat → Nat) (ty : Nat) (kn : Nat) (no : Nat) (at_ : Nat) (so : Nat) (sr : Nat) (va : Nat) (t : Nat → Nat) (g : Nat → Nat) (n : Nat) (h1 : g 1 + n < 2147483648) (h2 : t 2 < 2147483648) : ta_Mv (S := Unit) l D k yX8_winds cX8_winds 2 0 0 [.ref (z 0), .int (nI n)] [(z 0, .inr (8, [.ref (z 1), .int (nI ty), .ref (z 2), .ref (z 3), .ref (z 4), .ref (z 5), .int (nI kn), .ref (z 6), .ref (z 7), .ref (z 8), .int (nI no), .int (nI at_), .int (nI so), .int (nI sr), .int (nI va), .ref (z 9)])), (z 2, .inl (k.1 0, 23, .inl (ta_e t))), (z 4, .inl (k.1 0, 66, .inl (ta_e g)))] (fun _ => True) (fun u => [(z 0, .inr (8, [.ref (z 1), .int (nI ty), .ref (z 2), .ref (z 3), .ref (z 4), .ref (z 5), .int (nI kn), .ref (z 6), .ref (z 7), .ref (z 8), .int (nI no), .int (nI at_), .int (nI so), .int (nI sr), .int (nI va), .ref (z 9)])), (z 2, .inl (k.1 0, 23, .inl (ta_e t))), (z 4, .inl (k.1 0, 66, .inl (ta_e (tg_wind t g n))))]) := by
  refine ta_enter_v (by decide) (Nat.le_of_ble_eq_true rfl) ?_
  intro p e s m below meth c A ls Q C ret hP hD hS hl
  have C : ta_At p l D k s m ([.ref (z 0), .int (nI n)] : List Value).toArray c RX8 cX8_winds 2 A := C
  have hx := C.1.1
  have hb := C.1.2.1
  have hl : lv_has ls 2 [(0, .ref (z 0)), (1, .int (nI n))] := hl
  obtain ⟨H, hH⟩ : ∃ H, H = s.heap := ⟨_, rfl⟩
  obtain ⟨locs, hlocs⟩ : ∃ q : List Loc, q = [] := ⟨_, rfl⟩
  have hP : va_P D vwCl [(z 0, .inr (8, [.ref (z 1), .int (nI ty), .ref (z 2), .ref (z 3), .ref (z 4), .ref (z 5), .int (nI kn), .ref (z 6), .ref (z 7), .ref (z 8), .int (nI no), .int (nI at_), .int (nI so), .int (nI sr), .int (nI va), .ref (z 9)])), (z 2, .inl (k.1 0, 23, .inl (ta_e t))), (z 4, .inl (k.1 0, 66, .inl (ta_e g)))] H := by rw [hH]; exact hP
  have hS : va_S A s.heap H locs := by rw [hH, hlocs]; exact hS
  rw [← hlocs]
  suffices hgoal : W p l e ({ frames := 0, cells := 0, slots := 0, locals := 0 }) s m ([.ref (z 0), .int (nI n)] : List Value).toArray below meth c H locs 0 0 Q (F0 m 0 ls []) by rw [hH] at hgoal; exact hgoal
  clear hH hlocs
  refine lv_aload_n hx hb dX8_winds_0 rfl (lv_at hl 0 rfl) ?_
  refine ta_get C hP 0 inlX8 rfl rfl 4 (by decide) tw_128 rfl dX8_winds_1 ?_
  refine ta_iconst C 1 dX8_winds_4 (by decide) ?_
  refine lv_dup2_11 hx hb dX8_winds_5 rfl rfl ?_
  refine ta_iald C hP 2 rfl (i := 1) (by omega) dX8_winds_6 ?_
  refine lv_iload_n hx hb dX8_winds_7 rfl (lv_at hl 1 rfl) ?_
  refine ta_iadd C (a := g 1) (b := n) dX8_winds_8 ?_
  refine ta_iast C hP hD hS 2 rfl (i := 1) (v := (g 1) + n) (by omega) dX8_winds_9 (fun H locs hP hD hS => ?_)
  have hP : va_P D vwCl [(z 0, .inr (8, [.ref (z 1), .int (nI ty), .ref (z 2), .ref (z 3), .ref (z 4), .ref (z 5), .int (nI kn), .ref (z 6), .ref (z 7), .ref (z 8), .int (nI no), .int (nI at_), .int (nI so), .int (nI sr), .int (nI va), .ref (z 9)])), (z 2, .inl (k.1 0, 23, .inl (ta_e t))), (z 4, .inl (k.1 0, 66, .inl (ta_e (ta_u g 1 ((g 1) + n)))))] H := hP
  have hD : va_D A [(z 0, .inr (8, [.ref (z 1), .int (nI ty), .ref (z 2), .ref (z 3), .ref (z 4), .ref (z 5), .int (nI kn), .ref (z 6), .ref (z 7), .ref (z 8), .int (nI no), .int (nI at_), .int (nI so), .int (nI sr), .int (nI va), .ref (z 9)])), (z 2, .inl (k.1 0, 23, .inl (ta_e t))), (z 4, .inl (k.1 0, 66, .inl (ta_e (ta_u g 1 ((g 1) + n)))))] := hD
  refine lv_aload_n hx hb dX8_winds_10 rfl (lv_at hl 0 rfl) ?_
  refine ta_get C hP 0 inlX8 rfl rfl 4 (by decide) tw_128 rfl dX8_winds_11 ?_
  refine ta_iconst C 1 dX8_winds_14 (by decide) ?_
  refine ta_iald C hP 2 rfl (i := 1) (by omega) dX8_winds_15 ?_
  refine ta_nv (y := (g 1) + n) ta_us ?_
  refine lv_aload_n hx hb dX8_winds_16 rfl (lv_at hl 0 rfl) ?_
  refine ta_get C hP 0 inlX8 rfl rfl 2 (by decide) tw_126 rfl dX8_winds_17 ?_
  refine ta_iconst C 2 dX8_winds_20 (by decide) ?_
  refine ta_iald C hP 1 rfl (i := 2) (by omega) dX8_winds_21 ?_
  refine ta_clt C (a := (g 1) + n) (b := t 2) (tgt := 42) (by omega) (by omega) dX8_winds_22 (by decide) (fun c1 => ?_) (fun c1 => ?_)
  · have e : ta_u g 1 ((g 1) + n) = tg_wind t g n := by unfold tg_wind; rw [if_neg (by omega)]
    rw [e] at hP hD
    exact ret () dX8_winds_42 trivial hP hD hS
  · refine lv_aload_n hx hb dX8_winds_25 rfl (lv_at hl 0 rfl) ?_
    refine ta_get C hP 0 inlX8 rfl rfl 4 (by decide) tw_128 rfl dX8_winds_26 ?_
    refine ta_iconst C 1 dX8_winds_29 (by decide) ?_
    refine ta_iconst C 0 dX8_winds_30 (by decide) ?_
    refine ta_iast C hP hD hS 2 rfl (i := 1) (v := 0) (by omega) dX8_winds_31 (fun H locs hP hD hS => ?_)
    have hP : va_P D vwCl [(z 0, .inr (8, [.ref (z 1), .int (nI ty), .ref (z 2), .ref (z 3), .ref (z 4), .ref (z 5), .int (nI kn), .ref (z 6), .ref (z 7), .ref (z 8), .int (nI no), .int (nI at_), .int (nI so), .int (nI sr), .int (nI va), .ref (z 9)])), (z 2, .inl (k.1 0, 23, .inl (ta_e t))), (z 4, .inl (k.1 0, 66, .inl (ta_e (ta_u (ta_u g 1 ((g 1) + n)) 1 0))))] H := hP
    have hD : va_D A [(z 0, .inr (8, [.ref (z 1), .int (nI ty), .ref (z 2), .ref (z 3), .ref (z 4), .ref (z 5), .int (nI kn), .ref (z 6), .ref (z 7), .ref (z 8), .int (nI no), .int (nI at_), .int (nI so), .int (nI sr), .int (nI va), .ref (z 9)])), (z 2, .inl (k.1 0, 23, .inl (ta_e t))), (z 4, .inl (k.1 0, 66, .inl (ta_e (ta_u (ta_u g 1 ((g 1) + n)) 1 0))))] := hD
    refine lv_aload_n hx hb dX8_winds_32 rfl (lv_at hl 0 rfl) ?_
    refine ta_get C hP 0 inlX8 rfl rfl 4 (by decide) tw_128 rfl dX8_winds_33 ?_
    refine ta_iconst C 0 dX8_winds_36 (by decide) ?_
    refine lv_dup2_11 hx hb dX8_winds_37 rfl rfl ?_
    refine ta_iald C hP 2 rfl (i := 0) (by omega) dX8_winds_38 ?_
    refine ta_nv (y := (ta_u g 1 ((g 1) + n)) 0) (ta_un (by decide)) ?_
    refine ta_nv (y := g 0) (ta_un (by decide)) ?_
    refine ta_iconst C 1 dX8_winds_39 (by decide) ?_
    refine ta_iadd C (a := g 0) (b := 1) dX8_winds_40 ?_
    refine ta_iast C hP hD hS 2 rfl (i := 0) (v := (g 0) + 1) (by omega) dX8_winds_41 (fun H locs hP hD hS => ?_)
    have hP : va_P D vwCl [(z 0, .inr (8, [.ref (z 1), .int (nI ty), .ref (z 2), .ref (z 3), .ref (z 4), .ref (z 5), .int (nI kn), .ref (z 6), .ref (z 7), .ref (z 8), .int (nI no), .int (nI at_), .int (nI so), .int (nI sr), .int (nI va), .ref (z 9)])), (z 2, .inl (k.1 0, 23, .inl (ta_e t))), (z 4, .inl (k.1 0, 66, .inl (ta_e (ta_u (ta_u (ta_u g 1 ((g 1) + n)) 1 0) 0 ((g 0) + 1)))))] H := hP
    have hD : va_D A [(z 0, .inr (8, [.ref (z 1), .int (nI ty), .ref (z 2), .ref (z 3), .ref (z 4), .ref (z 5), .int (nI kn), .ref (z 6), .ref (z 7), .ref (z 8), .int (nI no), .int (nI at_), .int (nI so), .int (nI sr), .int (nI va), .ref (z 9)])), (z 2, .inl (k.1 0, 23, .inl (ta_e t))), (z 4, .inl (k.1 0, 66, .inl (ta_e (ta_u (ta_u (ta_u g 1 ((g 1) + n)) 1 0) 0 ((g 0) + 1)))))] := hD
    have e : ta_u (ta_u (ta_u g 1 ((g 1) + n)) 1 0) 0 ((g 0) + 1) = tg_wind t g n := by unfold tg_wind; rw [if_pos (by omega), ta_uu]
    rw [e] at hP hD
    exact ret () dX8_winds_42 trivial hP hD hS

set_option maxHeartbeats 4000000 in
set_option maxRecDepth 100000 in
theorem c_X8_orders (l : Launch) (D : va_G) (k : ta_C) (z : Nat → Nat) (ty : Nat) (kn : Nat) (no : Nat) (at_ : Nat) (so : Nat) (sr : Nat) (va : Nat) (g : Nat → Nat) (a : Nat) (c_ : Nat) (ha : a < 2) (hn8 : g (6 + a) < 8) : ta_Mv (S := Unit) l D k yX8_orders cX8_orders 3 1 40 [.ref (z 0), .int (nI a), .int (nI c_)] [(z 0, .inr (8, [.ref (z 1), .int (nI ty), .ref (z 2), .ref (z 3), .ref (z 4), .ref (z 5), .int (nI kn), .ref (z 6), .ref (z 7), .ref (z 8), .int (nI no), .int (nI at_), .int (nI so), .int (nI sr), .int (nI va), .ref (z 9)])), (z 4, .inl (k.1 0, 66, .inl (ta_e g)))] (fun _ => True) (fun u => [(z 0, .inr (8, [.ref (z 1), .int (nI ty), .ref (z 2), .ref (z 3), .ref (z 4), .ref (z 5), .int (nI kn), .ref (z 6), .ref (z 7), .ref (z 8), .int (nI no), .int (nI at_), .int (nI so), .int (nI sr), .int (nI va), .ref (z 9)])), (z 4, .inl (k.1 0, 66, .inl (ta_e (tg_ord g a c_))))]) := by
  refine ta_enter_v (by decide) (Nat.le_of_ble_eq_true rfl) ?_
  intro p e s m below meth c A ls Q C ret hP hD hS hl
  have C : ta_At p l D k s m ([.ref (z 0), .int (nI a), .int (nI c_)] : List Value).toArray c RX8 cX8_orders 3 A := C
  have hx := C.1.1
  have hb := C.1.2.1
  have hl : lv_has ls 3 [(0, .ref (z 0)), (1, .int (nI a)), (2, .int (nI c_))] := hl
  obtain ⟨H, hH⟩ : ∃ H, H = s.heap := ⟨_, rfl⟩
  obtain ⟨locs, hlocs⟩ : ∃ q : List Loc, q = [] := ⟨_, rfl⟩
  have hP : va_P D vwCl [(z 0, .inr (8, [.ref (z 1), .int (nI ty), .ref (z 2), .ref (z 3), .ref (z 4), .ref (z 5), .int (nI kn), .ref (z 6), .ref (z 7), .ref (z 8), .int (nI no), .int (nI at_), .int (nI so), .int (nI sr), .int (nI va), .ref (z 9)])), (z 4, .inl (k.1 0, 66, .inl (ta_e g)))] H := by rw [hH]; exact hP
  have hS : va_S A s.heap H locs := by rw [hH, hlocs]; exact hS
  rw [← hlocs]
  suffices hgoal : W p l e ({ frames := 1, cells := 0, slots := 0, locals := 40 }) s m ([.ref (z 0), .int (nI a), .int (nI c_)] : List Value).toArray below meth c H locs 0 0 Q (F0 m 0 ls []) by rw [hH] at hgoal; exact hgoal
  clear hH hlocs
  refine lv_aload_n hx hb dX8_orders_0 rfl (lv_at hl 0 rfl) ?_
  refine ta_get C hP 0 inlX8 rfl rfl 4 (by decide) tw_128 rfl dX8_orders_1 ?_
  refine lv_aload_n hx hb dX8_orders_4 rfl (lv_at hl 0 rfl) ?_
  refine lv_iload_n hx hb dX8_orders_5 rfl (lv_at hl 1 rfl) ?_
  refine lv_aload_n hx hb dX8_orders_6 rfl (lv_at hl 0 rfl) ?_
  refine ta_get C hP 0 inlX8 rfl rfl 4 (by decide) tw_128 rfl dX8_orders_7 ?_
  refine ta_bipush C 6 dX8_orders_10 (by decide) ?_
  refine lv_iload_n hx hb dX8_orders_12 rfl (lv_at hl 1 rfl) ?_
  refine ta_iadd C (a := 6) (b := a) dX8_orders_13 ?_
  refine ta_iald C hP 1 rfl (i := 6 + a) (by omega) dX8_orders_14 ?_
  refine ta_callVi (As := [.int (nI a), .int (nI (g (6 + a)))]) (rest0 := [.ref (z 4)]) (Wr := [(z 4, .inl (k.1 0, 66, .inl (ta_e g)))]) C hP hD hS (c_X8_next l D k z ty kn no at_ so sr va a (g (6 + a))) 0 rfl rfl rfl [0] [1] rfl rfl (by decide) (by decide) (by decide) tw_393 tw_390 tw_5 tw_391 tw_392 ⟨by decide, by decide, rfl⟩ ⟨Nat.le_of_ble_eq_true rfl, Nat.le_of_ble_eq_true rfl⟩ ⟨Nat.zero_le _, Nat.zero_le _⟩ hl.1 rfl (Nat.le_of_ble_eq_true rfl) dX8_orders_15 (fun r1 u2 H locs h3 hP hD hS => ?_)
  obtain rfl := h3
  have hP : va_P D vwCl [(z 4, .inl (k.1 0, 66, .inl (ta_e g))), (z 0, .inr (8, [.ref (z 1), .int (nI ty), .ref (z 2), .ref (z 3), .ref (z 4), .ref (z 5), .int (nI kn), .ref (z 6), .ref (z 7), .ref (z 8), .int (nI no), .int (nI at_), .int (nI so), .int (nI sr), .int (nI va), .ref (z 9)]))] H := hP
  have hD : va_D A [(z 4, .inl (k.1 0, 66, .inl (ta_e g))), (z 0, .inr (8, [.ref (z 1), .int (nI ty), .ref (z 2), .ref (z 3), .ref (z 4), .ref (z 5), .int (nI kn), .ref (z 6), .ref (z 7), .ref (z 8), .int (nI no), .int (nI at_), .int (nI so), .int (nI sr), .int (nI va), .ref (z 9)]))] := hD
  refine lv_iload_n hx hb dX8_orders_18 rfl (lv_at hl 2 rfl) ?_
  refine ta_iast C hP hD hS 0 rfl (i := 8 + 8 * a + (g (6 + a))) (v := c_) (by omega) dX8_orders_19 (fun H locs hP hD hS => ?_)
  have hP : va_P D vwCl [(z 4, .inl (k.1 0, 66, .inl (ta_e (ta_u g (8 + 8 * a + (g (6 + a))) c_)))), (z 0, .inr (8, [.ref (z 1), .int (nI ty), .ref (z 2), .ref (z 3), .ref (z 4), .ref (z 5), .int (nI kn), .ref (z 6), .ref (z 7), .ref (z 8), .int (nI no), .int (nI at_), .int (nI so), .int (nI sr), .int (nI va), .ref (z 9)]))] H := hP
  have hD : va_D A [(z 4, .inl (k.1 0, 66, .inl (ta_e (ta_u g (8 + 8 * a + (g (6 + a))) c_)))), (z 0, .inr (8, [.ref (z 1), .int (nI ty), .ref (z 2), .ref (z 3), .ref (z 4), .ref (z 5), .int (nI kn), .ref (z 6), .ref (z 7), .ref (z 8), .int (nI no), .int (nI at_), .int (nI so), .int (nI sr), .int (nI va), .ref (z 9)]))] := hD
  refine lv_aload_n hx hb dX8_orders_20 rfl (lv_at hl 0 rfl) ?_
  refine ta_get C hP 1 inlX8 rfl rfl 4 (by decide) tw_128 rfl dX8_orders_21 ?_
  refine ta_bipush C 6 dX8_orders_24 (by decide) ?_
  refine lv_iload_n hx hb dX8_orders_26 rfl (lv_at hl 1 rfl) ?_
  refine ta_iadd C (a := 6) (b := a) dX8_orders_27 ?_
  refine lv_dup2_11 hx hb dX8_orders_28 rfl rfl ?_
  refine ta_iald C hP 0 rfl (i := 6 + a) (by omega) dX8_orders_29 ?_
  refine ta_iconst C 1 dX8_orders_30 (by decide) ?_
  refine ta_iadd C (a := (ta_u g (8 + 8 * a + (g (6 + a))) c_) (6 + a)) (b := 1) dX8_orders_31 ?_
  refine ta_iast C hP hD hS 0 rfl (i := 6 + a) (v := ((ta_u g (8 + 8 * a + (g (6 + a))) c_) (6 + a)) + 1) (by omega) dX8_orders_32 (fun H locs hP hD hS => ?_)
  have hP : va_P D vwCl [(z 4, .inl (k.1 0, 66, .inl (ta_e (ta_u (ta_u g (8 + 8 * a + (g (6 + a))) c_) (6 + a) (((ta_u g (8 + 8 * a + (g (6 + a))) c_) (6 + a)) + 1))))), (z 0, .inr (8, [.ref (z 1), .int (nI ty), .ref (z 2), .ref (z 3), .ref (z 4), .ref (z 5), .int (nI kn), .ref (z 6), .ref (z 7), .ref (z 8), .int (nI no), .int (nI at_), .int (nI so), .int (nI sr), .int (nI va), .ref (z 9)]))] H := hP
  have hD : va_D A [(z 4, .inl (k.1 0, 66, .inl (ta_e (ta_u (ta_u g (8 + 8 * a + (g (6 + a))) c_) (6 + a) (((ta_u g (8 + 8 * a + (g (6 + a))) c_) (6 + a)) + 1))))), (z 0, .inr (8, [.ref (z 1), .int (nI ty), .ref (z 2), .ref (z 3), .ref (z 4), .ref (z 5), .int (nI kn), .ref (z 6), .ref (z 7), .ref (z 8), .int (nI no), .int (nI at_), .int (nI so), .int (nI sr), .int (nI va), .ref (z 9)]))] := hD
  have hP : va_P D vwCl [(z 0, .inr (8, [.ref (z 1), .int (nI ty), .ref (z 2), .ref (z 3), .ref (z 4), .ref (z 5), .int (nI kn), .ref (z 6), .ref (z 7), .ref (z 8), .int (nI no), .int (nI at_), .int (nI so), .int (nI sr), .int (nI va), .ref (z 9)])), (z 4, .inl (k.1 0, 66, .inl (ta_e (ta_u (ta_u g (8 + 8 * a + (g (6 + a))) c_) (6 + a) (((ta_u g (8 + 8 * a + (g (6 + a))) c_) (6 + a)) + 1)))))] H := hP.sub [1, 0] rfl
  have hD : va_D A [(z 0, .inr (8, [.ref (z 1), .int (nI ty), .ref (z 2), .ref (z 3), .ref (z 4), .ref (z 5), .int (nI kn), .ref (z 6), .ref (z 7), .ref (z 8), .int (nI no), .int (nI at_), .int (nI so), .int (nI sr), .int (nI va), .ref (z 9)])), (z 4, .inl (k.1 0, 66, .inl (ta_e (ta_u (ta_u g (8 + 8 * a + (g (6 + a))) c_) (6 + a) (((ta_u g (8 + 8 * a + (g (6 + a))) c_) (6 + a)) + 1)))))] := hD.sub [1, 0] (by decide) rfl
  have e : ta_u (ta_u g (8 + 8 * a + (g (6 + a))) c_) (6 + a) (((ta_u g (8 + 8 * a + (g (6 + a))) c_) (6 + a)) + 1) = tg_ord g a c_ := by unfold tg_ord; rw [ta_un (k := 8 + 8 * a + g (6 + a)) (j := 6 + a) (by omega)]
  rw [e] at hP hD
  exact ret () dX8_orders_33 trivial hP hD hS

set_option maxHeartbeats 4000000 in
set_option maxRecDepth 100000 in
theorem c_X8_holds (l : Launch) (D : va_G) (k : ta_C) (z : Nat → Nat) (ty : Nat) (kn : Nat) (no : Nat) (at_ : Nat) (so : Nat) (sr : Nat) (va : Nat) (g : Nat → Nat) (hd : Nat → Nat) : ta_Mv (S := Unit) l D k yX8_holds cX8_holds 2 0 0 [.ref (z 0)] [(z 0, .inr (8, [.ref (z 1), .int (nI ty), .ref (z 2), .ref (z 3), .ref (z 4), .ref (z 5), .int (nI kn), .ref (z 6), .ref (z 7), .ref (z 8), .int (nI no), .int (nI at_), .int (nI so), .int (nI sr), .int (nI va), .ref (z 9)])), (z 4, .inl (k.1 0, 66, .inl (ta_e g))), (z 9, .inl (k.1 0, 66, .inl (ta_e hd)))] (fun _ => True) (fun u => [(z 0, .inr (8, [.ref (z 1), .int (nI ty), .ref (z 2), .ref (z 3), .ref (z 4), .ref (z 5), .int (nI kn), .ref (z 6), .ref (z 7), .ref (z 8), .int (nI no), .int (nI at_), .int (nI so), .int (nI sr), .int (nI va), .ref (z 9)])), (z 4, .inl (k.1 0, 66, .inl (ta_e g))), (z 9, .inl (k.1 0, 66, .inl (ta_e g)))]) := by
  refine ta_enter_v (by decide) (Nat.le_of_ble_eq_true rfl) ?_
  intro p e s m below meth c A ls Q C ret hP hD hS hl
  have C : ta_At p l D k s m ([.ref (z 0)] : List Value).toArray c RX8 cX8_holds 2 A := C
  have hx := C.1.1
  have hb := C.1.2.1
  have hl : lv_has ls 2 [(0, .ref (z 0))] := hl
  obtain ⟨H, hH⟩ : ∃ H, H = s.heap := ⟨_, rfl⟩
  obtain ⟨locs, hlocs⟩ : ∃ q : List Loc, q = [] := ⟨_, rfl⟩
  have hP : va_P D vwCl [(z 0, .inr (8, [.ref (z 1), .int (nI ty), .ref (z 2), .ref (z 3), .ref (z 4), .ref (z 5), .int (nI kn), .ref (z 6), .ref (z 7), .ref (z 8), .int (nI no), .int (nI at_), .int (nI so), .int (nI sr), .int (nI va), .ref (z 9)])), (z 4, .inl (k.1 0, 66, .inl (ta_e g))), (z 9, .inl (k.1 0, 66, .inl (ta_e hd)))] H := by rw [hH]; exact hP
  have hS : va_S A s.heap H locs := by rw [hH, hlocs]; exact hS
  rw [← hlocs]
  suffices hgoal : W p l e ({ frames := 0, cells := 0, slots := 0, locals := 0 }) s m ([.ref (z 0)] : List Value).toArray below meth c H locs 0 0 Q (F0 m 0 ls []) by rw [hH] at hgoal; exact hgoal
  clear hH hlocs
  refine ta_iconst C 0 dX8_holds_0 (by decide) ?_
  refine lv_istore_n (lv' := [(1, .int (nI 0)), (0, .ref (z 0))]) hx hb dX8_holds_1 rfl hl (by decide) rfl (fun ls hl => ?_)
  have loop_2 : ∀ (N_2 : Nat) (i : Nat) (f2 : Nat → Nat), (i ≤ 66) → (∀ j, j < i → f2 j = g j) → 66 - i < N_2 → ∀ (H : Heap) (locs : List Loc) (ls : Array Slot), va_P D vwCl [(z 0, .inr (8, [.ref (z 1), .int (nI ty), .ref (z 2), .ref (z 3), .ref (z 4), .ref (z 5), .int (nI kn), .ref (z 6), .ref (z 7), .ref (z 8), .int (nI no), .int (nI at_), .int (nI so), .int (nI sr), .int (nI va), .ref (z 9)])), (z 4, .inl (k.1 0, 66, .inl (ta_e g))), (z 9, .inl (k.1 0, 66, .inl (ta_e f2)))] H → va_D A [(z 0, .inr (8, [.ref (z 1), .int (nI ty), .ref (z 2), .ref (z 3), .ref (z 4), .ref (z 5), .int (nI kn), .ref (z 6), .ref (z 7), .ref (z 8), .int (nI no), .int (nI at_), .int (nI so), .int (nI sr), .int (nI va), .ref (z 9)])), (z 4, .inl (k.1 0, 66, .inl (ta_e g))), (z 9, .inl (k.1 0, 66, .inl (ta_e f2)))] → va_S A s.heap H locs → lv_has ls 2 [(1, .int (nI i)), (0, .ref (z 0))] → W p l e ({ frames := 0, cells := 0, slots := 0, locals := 0 }) s m ([.ref (z 0)] : List Value).toArray below meth c H locs 0 0 Q (F0 m 2 ls []) := by
    clear hP hD hS hl
    intro N_2
    induction N_2 with
    | zero =>
      intro i f2 h1 h2 hf_2
      exact absurd hf_2 (Nat.not_lt_zero _)
    | succ N_2 ih_2 =>
      intro i f2 h1 h2 hf_2 H locs ls hP hD hS hl
      refine lv_iload_n hx hb dX8_holds_2 rfl (lv_at hl 0 rfl) ?_
      refine ta_bipush C 66 dX8_holds_3 (by decide) ?_
      refine ta_cge C (a := i) (b := 66) (tgt := 26) (by omega) (by omega) dX8_holds_5 (by decide) (fun c1 => ?_) (fun c1 => ?_)
      · exact ret () dX8_holds_26 trivial (ta_Pc (hP 0 _ rfl) (ta_Pc (hP 1 _ rfl) (ta_Pc (ta_ae (fun j hj => h2 j (by omega)) (hP 2 _ rfl)) ta_Pn))) (ta_De hD rfl) hS
      · refine lv_aload_n hx hb dX8_holds_8 rfl (lv_at hl 1 rfl) ?_
        refine ta_get C hP 0 inlX8 rfl rfl 15 (by decide) tw_133 rfl dX8_holds_9 ?_
        refine lv_iload_n hx hb dX8_holds_12 rfl (lv_at hl 0 rfl) ?_
        refine lv_aload_n hx hb dX8_holds_13 rfl (lv_at hl 1 rfl) ?_
        refine ta_get C hP 0 inlX8 rfl rfl 4 (by decide) tw_128 rfl dX8_holds_14 ?_
        refine lv_iload_n hx hb dX8_holds_17 rfl (lv_at hl 0 rfl) ?_
        refine ta_iald C hP 1 rfl (i := i) (by omega) dX8_holds_18 ?_
        refine ta_iast C hP hD hS 2 rfl (i := i) (v := g i) (by omega) dX8_holds_19 (fun H locs hP hD hS => ?_)
        have hP : va_P D vwCl [(z 0, .inr (8, [.ref (z 1), .int (nI ty), .ref (z 2), .ref (z 3), .ref (z 4), .ref (z 5), .int (nI kn), .ref (z 6), .ref (z 7), .ref (z 8), .int (nI no), .int (nI at_), .int (nI so), .int (nI sr), .int (nI va), .ref (z 9)])), (z 4, .inl (k.1 0, 66, .inl (ta_e g))), (z 9, .inl (k.1 0, 66, .inl (ta_e (ta_u f2 i (g i)))))] H := hP
        have hD : va_D A [(z 0, .inr (8, [.ref (z 1), .int (nI ty), .ref (z 2), .ref (z 3), .ref (z 4), .ref (z 5), .int (nI kn), .ref (z 6), .ref (z 7), .ref (z 8), .int (nI no), .int (nI at_), .int (nI so), .int (nI sr), .int (nI va), .ref (z 9)])), (z 4, .inl (k.1 0, 66, .inl (ta_e g))), (z 9, .inl (k.1 0, 66, .inl (ta_e (ta_u f2 i (g i)))))] := hD
        refine lv_iinc (v := nI (i + 1)) (lv' := [(1, .int (nI (i + 1))), (0, .ref (z 0))]) hx hb dX8_holds_20 hl (k := 0) rfl (ta_inc1 _) (by decide) rfl (fun ls hl => ?_)
        refine lv_goto (tgt := 2) hx hb dX8_holds_23 (by decide) ?_
        exact ih_2 (i + 1) (ta_u f2 i (g i)) (by omega) (ta_fill h2) (by omega) _ _ _ hP hD hS (lv_sub hl [0, 1] rfl)
  exact loop_2 ((66 - 0) + 1) 0 hd (by omega) (fun j hj => absurd hj (Nat.not_lt_zero j)) (Nat.lt_succ_self _) _ _ _ hP hD hS (lv_sub hl [0, 1] rfl)

set_option maxHeartbeats 4000000 in
set_option maxRecDepth 100000 in
theorem c_X8_lets (l : Launch) (D : va_G) (k : ta_C) (z : Nat → Nat) (ty : Nat) (kn : Nat) (no : Nat) (at_ : Nat) (so : Nat) (sr : Nat) (va : Nat) (g : Nat → Nat) (hd : Nat → Nat) : ta_Mv (S := Unit) l D k yX8_lets cX8_lets 2 0 0 [.ref (z 0)] [(z 0, .inr (8, [.ref (z 1), .int (nI ty), .ref (z 2), .ref (z 3), .ref (z 4), .ref (z 5), .int (nI kn), .ref (z 6), .ref (z 7), .ref (z 8), .int (nI no), .int (nI at_), .int (nI so), .int (nI sr), .int (nI va), .ref (z 9)])), (z 4, .inl (k.1 0, 66, .inl (ta_e g))), (z 9, .inl (k.1 0, 66, .inl (ta_e hd)))] (fun _ => True) (fun u => [(z 0, .inr (8, [.ref (z 1), .int (nI ty), .ref (z 2), .ref (z 3), .ref (z 4), .ref (z 5), .int (nI kn), .ref (z 6), .ref (z 7), .ref (z 8), .int (nI no), .int (nI at_), .int (nI so), .int (nI sr), .int (nI va), .ref (z 9)])), (z 4, .inl (k.1 0, 66, .inl (ta_e hd))), (z 9, .inl (k.1 0, 66, .inl (ta_e hd)))]) := by
  refine ta_enter_v (by decide) (Nat.le_of_ble_eq_true rfl) ?_
  intro p e s m below meth c A ls Q C ret hP hD hS hl
  have C : ta_At p l D k s m ([.ref (z 0)] : List Value).toArray c RX8 cX8_lets 2 A := C
  have hx := C.1.1
  have hb := C.1.2.1
  have hl : lv_has ls 2 [(0, .ref (z 0))] := hl
  obtain ⟨H, hH⟩ : ∃ H, H = s.heap := ⟨_, rfl⟩
  obtain ⟨locs, hlocs⟩ : ∃ q : List Loc, q = [] := ⟨_, rfl⟩
  have hP : va_P D vwCl [(z 0, .inr (8, [.ref (z 1), .int (nI ty), .ref (z 2), .ref (z 3), .ref (z 4), .ref (z 5), .int (nI kn), .ref (z 6), .ref (z 7), .ref (z 8), .int (nI no), .int (nI at_), .int (nI so), .int (nI sr), .int (nI va), .ref (z 9)])), (z 4, .inl (k.1 0, 66, .inl (ta_e g))), (z 9, .inl (k.1 0, 66, .inl (ta_e hd)))] H := by rw [hH]; exact hP
  have hS : va_S A s.heap H locs := by rw [hH, hlocs]; exact hS
  rw [← hlocs]
  suffices hgoal : W p l e ({ frames := 0, cells := 0, slots := 0, locals := 0 }) s m ([.ref (z 0)] : List Value).toArray below meth c H locs 0 0 Q (F0 m 0 ls []) by rw [hH] at hgoal; exact hgoal
  clear hH hlocs
  refine ta_iconst C 0 dX8_lets_0 (by decide) ?_
  refine lv_istore_n (lv' := [(1, .int (nI 0)), (0, .ref (z 0))]) hx hb dX8_lets_1 rfl hl (by decide) rfl (fun ls hl => ?_)
  have loop_2 : ∀ (N_2 : Nat) (i : Nat) (f2 : Nat → Nat), (i ≤ 66) → (∀ j, j < i → f2 j = hd j) → 66 - i < N_2 → ∀ (H : Heap) (locs : List Loc) (ls : Array Slot), va_P D vwCl [(z 0, .inr (8, [.ref (z 1), .int (nI ty), .ref (z 2), .ref (z 3), .ref (z 4), .ref (z 5), .int (nI kn), .ref (z 6), .ref (z 7), .ref (z 8), .int (nI no), .int (nI at_), .int (nI so), .int (nI sr), .int (nI va), .ref (z 9)])), (z 4, .inl (k.1 0, 66, .inl (ta_e f2))), (z 9, .inl (k.1 0, 66, .inl (ta_e hd)))] H → va_D A [(z 0, .inr (8, [.ref (z 1), .int (nI ty), .ref (z 2), .ref (z 3), .ref (z 4), .ref (z 5), .int (nI kn), .ref (z 6), .ref (z 7), .ref (z 8), .int (nI no), .int (nI at_), .int (nI so), .int (nI sr), .int (nI va), .ref (z 9)])), (z 4, .inl (k.1 0, 66, .inl (ta_e f2))), (z 9, .inl (k.1 0, 66, .inl (ta_e hd)))] → va_S A s.heap H locs → lv_has ls 2 [(1, .int (nI i)), (0, .ref (z 0))] → W p l e ({ frames := 0, cells := 0, slots := 0, locals := 0 }) s m ([.ref (z 0)] : List Value).toArray below meth c H locs 0 0 Q (F0 m 2 ls []) := by
    clear hP hD hS hl
    intro N_2
    induction N_2 with
    | zero =>
      intro i f2 h1 h2 hf_2
      exact absurd hf_2 (Nat.not_lt_zero _)
    | succ N_2 ih_2 =>
      intro i f2 h1 h2 hf_2 H locs ls hP hD hS hl
      refine lv_iload_n hx hb dX8_lets_2 rfl (lv_at hl 0 rfl) ?_
      refine ta_bipush C 66 dX8_lets_3 (by decide) ?_
      refine ta_cge C (a := i) (b := 66) (tgt := 26) (by omega) (by omega) dX8_lets_5 (by decide) (fun c1 => ?_) (fun c1 => ?_)
      · exact ret () dX8_lets_26 trivial (ta_Pc (hP 0 _ rfl) (ta_Pc (ta_ae (fun j hj => h2 j (by omega)) (hP 1 _ rfl)) (ta_Pc (hP 2 _ rfl) ta_Pn))) (ta_De hD rfl) hS
      · refine lv_aload_n hx hb dX8_lets_8 rfl (lv_at hl 1 rfl) ?_
        refine ta_get C hP 0 inlX8 rfl rfl 4 (by decide) tw_128 rfl dX8_lets_9 ?_
        refine lv_iload_n hx hb dX8_lets_12 rfl (lv_at hl 0 rfl) ?_
        refine lv_aload_n hx hb dX8_lets_13 rfl (lv_at hl 1 rfl) ?_
        refine ta_get C hP 0 inlX8 rfl rfl 15 (by decide) tw_133 rfl dX8_lets_14 ?_
        refine lv_iload_n hx hb dX8_lets_17 rfl (lv_at hl 0 rfl) ?_
        refine ta_iald C hP 2 rfl (i := i) (by omega) dX8_lets_18 ?_
        refine ta_iast C hP hD hS 1 rfl (i := i) (v := hd i) (by omega) dX8_lets_19 (fun H locs hP hD hS => ?_)
        have hP : va_P D vwCl [(z 0, .inr (8, [.ref (z 1), .int (nI ty), .ref (z 2), .ref (z 3), .ref (z 4), .ref (z 5), .int (nI kn), .ref (z 6), .ref (z 7), .ref (z 8), .int (nI no), .int (nI at_), .int (nI so), .int (nI sr), .int (nI va), .ref (z 9)])), (z 4, .inl (k.1 0, 66, .inl (ta_e (ta_u f2 i (hd i))))), (z 9, .inl (k.1 0, 66, .inl (ta_e hd)))] H := hP
        have hD : va_D A [(z 0, .inr (8, [.ref (z 1), .int (nI ty), .ref (z 2), .ref (z 3), .ref (z 4), .ref (z 5), .int (nI kn), .ref (z 6), .ref (z 7), .ref (z 8), .int (nI no), .int (nI at_), .int (nI so), .int (nI sr), .int (nI va), .ref (z 9)])), (z 4, .inl (k.1 0, 66, .inl (ta_e (ta_u f2 i (hd i))))), (z 9, .inl (k.1 0, 66, .inl (ta_e hd)))] := hD
        refine lv_iinc (v := nI (i + 1)) (lv' := [(1, .int (nI (i + 1))), (0, .ref (z 0))]) hx hb dX8_lets_20 hl (k := 0) rfl (ta_inc1 _) (by decide) rfl (fun ls hl => ?_)
        refine lv_goto (tgt := 2) hx hb dX8_lets_23 (by decide) ?_
        exact ih_2 (i + 1) (ta_u f2 i (hd i)) (by omega) (ta_fill h2) (by omega) _ _ _ hP hD hS (lv_sub hl [0, 1] rfl)
  exact loop_2 ((66 - 0) + 1) 0 g (by omega) (fun j hj => absurd hj (Nat.not_lt_zero j)) (Nat.lt_succ_self _) _ _ _ hP hD hS (lv_sub hl [0, 1] rfl)
