/-! constant texts -/
def ta_wd : List (List Nat) := [[103, 114, 111, 117, 110, 100], [115, 116, 97, 110, 100], [104, 111, 117, 114], [114, 101, 115, 116], [109, 97, 114, 99, 104], [98, 97, 99, 107], [100, 111, 117, 98, 108, 101], [116, 117, 114, 110], [107, 110, 101, 101, 108], [59]]
def ta_chr (i j : Nat) : Nat := (ta_wd.getD i []).getD j 0
theorem ta_chr_ok : ∀ i, i < 10 → ∀ j, j < ta_len.getD i 0 → (((ta_byt.getD i []).getD j 0 &&& nI 255).toUInt32 % 65536).toInt32 = nI (ta_chr i j) ∧ ta_chr i j < 256 := by decide +kernel
theorem ta_len_ok : ∀ i, i < 10 → 1 ≤ ta_len.getD i 0 ∧ ta_len.getD i 0 ≤ 6 := by decide +kernel
/-! the text: letters tx, length L -/
def txW (k : ta_C) (x : Nat → Nat) (L : Nat) (tx : Nat → Nat) : va_W := [(x 0, .inr (6, [.ref (x 1), .int (nI L)])), (x 1, .inl (k.1 0, 160, .inl (ta_e tx)))]
/-- the sort of a place: 0 blank, 1 small letter, 2 digit, 3 other -/
def tx_s (tx : Nat → Nat) (L p : Nat) : Nat := if p < L then (if 97 ≤ tx p ∧ tx p ≤ 122 then 1 else if 48 ≤ tx p ∧ tx p ≤ 57 then 2 else if tx p = 32 then 0 else 3) else 3
def tx_ok (tx : Nat → Nat) (L : Nat) : Prop := L ≤ 160 ∧ ∀ j, j < L → tx j < 256
set_option maxHeartbeats 4000000 in
set_option maxRecDepth 100000 in
theorem c_J0_coder (l : Launch) (D : va_G) (k : ta_C) (i : Nat) (hi : i < 10) : ta_Mi (S := Unit) l D k yJ0_coder_7d493 cJ0_coder_7d493 1 .byte 0 0 [.ref (k.2 (10 + i))] [] (fun r _ => r = nI 0) (fun u => []) := by
  refine ta_enter_i (by decide) (Nat.le_of_ble_eq_true rfl) ?_
  intro p e s m below meth c A ls Q C ret hP hD hS hl
  have C : ta_At p l D k s m ([.ref (k.2 (10 + i))] : List Value).toArray c RJ0 cJ0_coder_7d493 1 A := C
  have hx := C.1.1
  have hb := C.1.2.1
  have hl : lv_has ls 1 [(0, .ref (k.2 (10 + i)))] := hl
  obtain ⟨H, hH⟩ : ∃ H, H = s.heap := ⟨_, rfl⟩
  obtain ⟨locs, hlocs⟩ : ∃ q : List Loc, q = [] := ⟨_, rfl⟩
  have hP : va_P D vwCl [] H := by rw [hH]; exact hP
  have hS : va_S A s.heap H locs := by rw [hH, hlocs]; exact hS
  rw [← hlocs]
  suffices hgoal : W p l e ({ frames := 0, cells := 0, slots := 0, locals := 0 }) s m ([.ref (k.2 (10 + i))] : List Value).toArray below meth c H locs 0 0 Q (F0 m 0 ls []) by rw [hH] at hgoal; exact hgoal
  clear hH hlocs
  refine va_gets hx hb C.2.1.2.2.2.2.2.2.2.1 hS C.1.2.2.2.1 (C.1.2.2.2.2 _ tw_211) (fun _ h => h) dJ0_coder_7d493_0 ?_
  refine lv_if_eq (tgt := 13) hx hb dJ0_coder_7d493_3 (by decide) (fun c1 => ?_) (fun c1 => ?_)
  · exact absurd c1 (by decide)
  · refine lv_aload_n hx hb dJ0_coder_7d493_6 rfl (lv_at hl 0 rfl) ?_
    refine vk_getf hx hb (C.2.1.2.2.2.2.2.2.2.2.1.1 i (by omega)).2.1 hS C.1.2.2.2.1 (C.1.2.2.2.2 _ tw_212) (fun _ h => h) dJ0_coder_7d493_7 ?_
    refine ta_val (y := nI 0) rfl ?_
    refine lv_goto (tgt := 14) hx hb dJ0_coder_7d493_10 (by decide) ?_
    exact ret (nI 0) () dJ0_coder_7d493_14 (by decide) rfl hP hD hS

set_option maxHeartbeats 4000000 in
set_option maxRecDepth 100000 in
theorem c_J0_isLatin1 (l : Launch) (D : va_G) (k : ta_C) (i : Nat) (hi : i < 10) : ta_Mi (S := Unit) l D k yJ0_isLatin1_aae02 cJ0_isLatin1_aae02 1 .boolean 0 0 [.ref (k.2 (10 + i))] [] (fun r _ => r = nI 1) (fun u => []) := by
  refine ta_enter_i (by decide) (Nat.le_of_ble_eq_true rfl) ?_
  intro p e s m below meth c A ls Q C ret hP hD hS hl
  have C : ta_At p l D k s m ([.ref (k.2 (10 + i))] : List Value).toArray c RJ0 cJ0_isLatin1_aae02 1 A := C
  have hx := C.1.1
  have hb := C.1.2.1
  have hl : lv_has ls 1 [(0, .ref (k.2 (10 + i)))] := hl
  obtain ⟨H, hH⟩ : ∃ H, H = s.heap := ⟨_, rfl⟩
  obtain ⟨locs, hlocs⟩ : ∃ q : List Loc, q = [] := ⟨_, rfl⟩
  have hP : va_P D vwCl [] H := by rw [hH]; exact hP
  have hS : va_S A s.heap H locs := by rw [hH, hlocs]; exact hS
  rw [← hlocs]
  suffices hgoal : W p l e ({ frames := 0, cells := 0, slots := 0, locals := 0 }) s m ([.ref (k.2 (10 + i))] : List Value).toArray below meth c H locs 0 0 Q (F0 m 0 ls []) by rw [hH] at hgoal; exact hgoal
  clear hH hlocs
  refine va_gets hx hb C.2.1.2.2.2.2.2.2.2.1 hS C.1.2.2.2.1 (C.1.2.2.2.2 _ tw_211) (fun _ h => h) dJ0_isLatin1_aae02_0 ?_
  refine lv_if_eq (tgt := 17) hx hb dJ0_isLatin1_aae02_3 (by decide) (fun c1 => ?_) (fun c1 => ?_)
  · exact absurd c1 (by decide)
  · refine lv_aload_n hx hb dJ0_isLatin1_aae02_6 rfl (lv_at hl 0 rfl) ?_
    refine vk_getf hx hb (C.2.1.2.2.2.2.2.2.2.2.1.1 i (by omega)).2.1 hS C.1.2.2.2.1 (C.1.2.2.2.2 _ tw_212) (fun _ h => h) dJ0_isLatin1_aae02_7 ?_
    refine ta_val (y := nI 0) rfl ?_
    refine lv_if_ne (tgt := 17) hx hb dJ0_isLatin1_aae02_10 (by decide) (fun c2 => ?_) (fun c2 => ?_)
    · exact absurd c2 (by decide)
    · refine ta_iconst C 1 dJ0_isLatin1_aae02_13 (by decide) ?_
      refine lv_goto (tgt := 18) hx hb dJ0_isLatin1_aae02_14 (by decide) ?_
      exact ret (nI 1) () dJ0_isLatin1_aae02_18 (by decide) rfl hP hD hS

set_option maxHeartbeats 4000000 in
set_option maxRecDepth 100000 in
theorem c_J0_length (l : Launch) (D : va_G) (k : ta_C) (i : Nat) (hi : i < 10) : ta_Mi (S := Unit) l D k yJ0_length_8abf5 cJ0_length_8abf5 1 .int 1 30 [.ref (k.2 (10 + i))] [] (fun r _ => r = nI (ta_len.getD i 0)) (fun u => []) := by
  refine ta_enter_i (by decide) (Nat.le_of_ble_eq_true rfl) ?_
  intro p e s m below meth c A ls Q C ret hP hD hS hl
  have C : ta_At p l D k s m ([.ref (k.2 (10 + i))] : List Value).toArray c RJ0 cJ0_length_8abf5 1 A := C
  have hx := C.1.1
  have hb := C.1.2.1
  have hl : lv_has ls 1 [(0, .ref (k.2 (10 + i)))] := hl
  obtain ⟨H, hH⟩ : ∃ H, H = s.heap := ⟨_, rfl⟩
  obtain ⟨locs, hlocs⟩ : ∃ q : List Loc, q = [] := ⟨_, rfl⟩
  have hP : va_P D vwCl [] H := by rw [hH]; exact hP
  have hS : va_S A s.heap H locs := by rw [hH, hlocs]; exact hS
  rw [← hlocs]
  suffices hgoal : W p l e ({ frames := 1, cells := 0, slots := 0, locals := 30 }) s m ([.ref (k.2 (10 + i))] : List Value).toArray below meth c H locs 0 0 Q (F0 m 0 ls []) by rw [hH] at hgoal; exact hgoal
  clear hH hlocs
  have hlen := ta_len_ok i hi
  refine lv_aload_n hx hb dJ0_length_8abf5_0 rfl (lv_at hl 0 rfl) ?_
  refine vk_getf hx hb (C.2.1.2.2.2.2.2.2.2.2.1.1 i (by omega)).2.2.1 hS C.1.2.2.2.1 (C.1.2.2.2.2 _ tw_206) (fun _ h => h) dJ0_length_8abf5_1 ?_
  refine va_tlen hx hb (C.2.1.2.2.2.2.2.2.2.2.1.1 i (by omega)).2.2.2 hS (v := nI (ta_len.getD i 0)) rfl dJ0_length_8abf5_4 ?_
  refine lv_aload_n hx hb dJ0_length_8abf5_5 rfl (lv_at hl 0 rfl) ?_
  refine ta_callKi (i := i) (As := []) (rest0 := [.int (nI (ta_len.getD i 0))]) C hP hD hS (c_J0_coder l D k i (by omega)) (by omega) rfl tw_210 tw_207 tw_204 tw_208 tw_209 ⟨by decide, by decide, rfl⟩ ⟨Nat.le_of_ble_eq_true rfl, Nat.le_of_ble_eq_true rfl⟩ ⟨Nat.zero_le _, Nat.zero_le _⟩ hl.1 rfl (Nat.le_of_ble_eq_true rfl) dJ0_length_8abf5_6 (fun r1 u2 H locs h3 hP hS => ?_)
  obtain rfl := h3
  have hP : va_P D vwCl [] H := hP
  have hD : va_D A [] := hD
  refine lv_ishr hx hb dJ0_length_8abf5_9 ?_
  refine ta_val (y := nI (ta_len.getD i 0)) (sc_shr0 (by omega)) ?_
  exact ret (nI (ta_len.getD i 0)) () dJ0_length_8abf5_10 rfl rfl hP hD hS

set_option maxHeartbeats 4000000 in
set_option maxRecDepth 100000 in
theorem c_J3_checkIndex_n (l : Launch) (D : va_G) (k : ta_C) (a : Nat) (n : Nat) (han : a < n) (hn : n < 1000) : ta_Mi (S := Unit) l D k yJ3_checkIndex_8e157 cJ3_checkIndex_8e157 3 .int 0 0 [.int (nI a), .int (nI n), .null] [] (fun r _ => r = nI a) (fun u => []) := by
  refine ta_enter_i (by decide) (Nat.le_of_ble_eq_true rfl) ?_
  intro p e s m below meth c A ls Q C ret hP hD hS hl
  have C : ta_At p l D k s m ([.int (nI a), .int (nI n), .null] : List Value).toArray c RJ3 cJ3_checkIndex_8e157 3 A := C
  have hx := C.1.1
  have hb := C.1.2.1
  have hl : lv_has ls 3 [(0, .int (nI a)), (1, .int (nI n)), (2, .null)] := hl
  obtain ⟨H, hH⟩ : ∃ H, H = s.heap := ⟨_, rfl⟩
  obtain ⟨locs, hlocs⟩ : ∃ q : List Loc, q = [] := ⟨_, rfl⟩
  have hP : va_P D vwCl [] H := by rw [hH]; exact hP
  have hS : va_S A s.heap H locs := by rw [hH, hlocs]; exact hS
  rw [← hlocs]
  suffices hgoal : W p l e ({ frames := 0, cells := 0, slots := 0, locals := 0 }) s m ([.int (nI a), .int (nI n), .null] : List Value).toArray below meth c H locs 0 0 Q (F0 m 0 ls []) by rw [hH] at hgoal; exact hgoal
  clear hH hlocs
  refine lv_iload_n hx hb dJ3_checkIndex_8e157_0 rfl (lv_at hl 0 rfl) ?_
  refine ta_ilt C (a := a) (tgt := 9) (by omega) dJ3_checkIndex_8e157_1 (by decide) ?_
  refine lv_iload_n hx hb dJ3_checkIndex_8e157_4 rfl (lv_at hl 0 rfl) ?_
  refine lv_iload_n hx hb dJ3_checkIndex_8e157_5 rfl (lv_at hl 1 rfl) ?_
  refine ta_clt C (a := a) (b := n) (tgt := 16) (by omega) (by omega) dJ3_checkIndex_8e157_6 (by decide) (fun c2 => ?_) (fun c2 => ?_)
  · refine lv_iload_n hx hb dJ3_checkIndex_8e157_16 rfl (lv_at hl 0 rfl) ?_
    exact ret (nI a) () dJ3_checkIndex_8e157_17 rfl rfl hP hD hS
  · exfalso; omega

set_option maxHeartbeats 4000000 in
set_option maxRecDepth 100000 in
theorem c_J3_checkIndex_r (l : Launch) (D : va_G) (k : ta_C) (a : Nat) (n : Nat) (t : Nat) (han : a < n) (hn : n < 1000) : ta_Mi (S := Unit) l D k yJ3_checkIndex_8e157 cJ3_checkIndex_8e157 3 .int 0 0 [.int (nI a), .int (nI n), .ref t] [] (fun r _ => r = nI a) (fun u => []) := by
  refine ta_enter_i (by decide) (Nat.le_of_ble_eq_true rfl) ?_
  intro p e s m below meth c A ls Q C ret hP hD hS hl
  have C : ta_At p l D k s m ([.int (nI a), .int (nI n), .ref t] : List Value).toArray c RJ3 cJ3_checkIndex_8e157 3 A := C
  have hx := C.1.1
  have hb := C.1.2.1
  have hl : lv_has ls 3 [(0, .int (nI a)), (1, .int (nI n)), (2, .ref t)] := hl
  obtain ⟨H, hH⟩ : ∃ H, H = s.heap := ⟨_, rfl⟩
  obtain ⟨locs, hlocs⟩ : ∃ q : List Loc, q = [] := ⟨_, rfl⟩
  have hP : va_P D vwCl [] H := by rw [hH]; exact hP
  have hS : va_S A s.heap H locs := by rw [hH, hlocs]; exact hS
  rw [← hlocs]
  suffices hgoal : W p l e ({ frames := 0, cells := 0, slots := 0, locals := 0 }) s m ([.int (nI a), .int (nI n), .ref t] : List Value).toArray below meth c H locs 0 0 Q (F0 m 0 ls []) by rw [hH] at hgoal; exact hgoal
  clear hH hlocs
  refine lv_iload_n hx hb dJ3_checkIndex_8e157_0 rfl (lv_at hl 0 rfl) ?_
  refine ta_ilt C (a := a) (tgt := 9) (by omega) dJ3_checkIndex_8e157_1 (by decide) ?_
  refine lv_iload_n hx hb dJ3_checkIndex_8e157_4 rfl (lv_at hl 0 rfl) ?_
  refine lv_iload_n hx hb dJ3_checkIndex_8e157_5 rfl (lv_at hl 1 rfl) ?_
  refine ta_clt C (a := a) (b := n) (tgt := 16) (by omega) (by omega) dJ3_checkIndex_8e157_6 (by decide) (fun c2 => ?_) (fun c2 => ?_)
  · refine lv_iload_n hx hb dJ3_checkIndex_8e157_16 rfl (lv_at hl 0 rfl) ?_
    exact ret (nI a) () dJ3_checkIndex_8e157_17 rfl rfl hP hD hS
  · exfalso; omega

set_option maxHeartbeats 4000000 in
set_option maxRecDepth 100000 in
theorem c_J0_checkIndex (l : Launch) (D : va_G) (k : ta_C) (a : Nat) (n : Nat) (han : a < n) (hn : n < 1000) : ta_Mv (S := Unit) l D k yJ0_checkIndex_df160 cJ0_checkIndex_df160 2 1 30 [.int (nI a), .int (nI n)] [] (fun _ => True) (fun u => []) := by
  refine ta_enter_v (by decide) (Nat.le_of_ble_eq_true rfl) ?_
  intro p e s m below meth c A ls Q C ret hP hD hS hl
  have C : ta_At p l D k s m ([.int (nI a), .int (nI n)] : List Value).toArray c RJ0 cJ0_checkIndex_df160 2 A := C
  have hx := C.1.1
  have hb := C.1.2.1
  have hl : lv_has ls 2 [(0, .int (nI a)), (1, .int (nI n))] := hl
  obtain ⟨H, hH⟩ : ∃ H, H = s.heap := ⟨_, rfl⟩
  obtain ⟨locs, hlocs⟩ : ∃ q : List Loc, q = [] := ⟨_, rfl⟩
  have hP : va_P D vwCl [] H := by rw [hH]; exact hP
  have hS : va_S A s.heap H locs := by rw [hH, hlocs]; exact hS
  rw [← hlocs]
  suffices hgoal : W p l e ({ frames := 1, cells := 0, slots := 0, locals := 30 }) s m ([.int (nI a), .int (nI n)] : List Value).toArray below meth c H locs 0 0 Q (F0 m 0 ls []) by rw [hH] at hgoal; exact hgoal
  clear hH hlocs
  refine lv_iload_n hx hb dJ0_checkIndex_df160_0 rfl (lv_at hl 0 rfl) ?_
  refine lv_iload_n hx hb dJ0_checkIndex_df160_1 rfl (lv_at hl 1 rfl) ?_
  rcases C.2.1.2.2.2.2.2.2.2.2.2 with hZ | ⟨tz0, hZ⟩
  · refine va_gets hx hb hZ hS C.1.2.2.2.1 (C.1.2.2.2.2 _ tw_228) (fun _ h => h) dJ0_checkIndex_df160_2 ?_
    refine ta_callSi (As := [.int (nI a), .int (nI n), .null]) (rest0 := []) (Wr := []) C hP hD hS (c_J3_checkIndex_n l D k a n (by omega) (by omega)) [] [] rfl rfl (by decide) (by decide) (by decide) tw_232 tw_229 tw_231 tw_230 ⟨by decide, by decide, rfl⟩ ⟨Nat.le_of_ble_eq_true rfl, Nat.le_of_ble_eq_true rfl⟩ ⟨Nat.zero_le _, Nat.zero_le _⟩ hl.1 rfl (Nat.le_of_ble_eq_true rfl) dJ0_checkIndex_df160_5 (fun r1 u2 H locs h3 hP hD hS => ?_)
    obtain rfl := h3
    have hP : va_P D vwCl [] H := hP
    have hD : va_D A [] := hD
    refine lv_pop hx hb dJ0_checkIndex_df160_8 rfl ?_
    exact ret () dJ0_checkIndex_df160_9 trivial hP hD hS
  · refine va_gets hx hb hZ hS C.1.2.2.2.1 (C.1.2.2.2.2 _ tw_228) (fun _ h => h) dJ0_checkIndex_df160_2 ?_
    refine ta_callSi (As := [.int (nI a), .int (nI n), .ref tz0]) (rest0 := []) (Wr := []) C hP hD hS (c_J3_checkIndex_r l D k a n tz0 (by omega) (by omega)) [] [] rfl rfl (by decide) (by decide) (by decide) tw_232 tw_229 tw_231 tw_230 ⟨by decide, by decide, rfl⟩ ⟨Nat.le_of_ble_eq_true rfl, Nat.le_of_ble_eq_true rfl⟩ ⟨Nat.zero_le _, Nat.zero_le _⟩ hl.1 rfl (Nat.le_of_ble_eq_true rfl) dJ0_checkIndex_df160_5 (fun r4 u5 H locs h6 hP hD hS => ?_)
    obtain rfl := h6
    have hP : va_P D vwCl [] H := hP
    have hD : va_D A [] := hD
    refine lv_pop hx hb dJ0_checkIndex_df160_8 rfl ?_
    exact ret () dJ0_checkIndex_df160_9 trivial hP hD hS

set_option maxHeartbeats 4000000 in
set_option maxRecDepth 100000 in
theorem c_J1_charAt (l : Launch) (D : va_G) (k : ta_C) (i : Nat) (j : Nat) (hi : i < 10) (hj : j < ta_len.getD i 0) : ta_Mi (S := Unit) l D k yJ1_charAt_3b067 cJ1_charAt_3b067 2 .char 2 60 [.ref (k.2 (20 + i)), .int (nI j)] [] (fun r _ => r = nI (ta_chr i j)) (fun u => []) := by
  refine ta_enter_i (by decide) (Nat.le_of_ble_eq_true rfl) ?_
  intro p e s m below meth c A ls Q C ret hP hD hS hl
  have C : ta_At p l D k s m ([.ref (k.2 (20 + i)), .int (nI j)] : List Value).toArray c RJ1 cJ1_charAt_3b067 2 A := C
  have hx := C.1.1
  have hb := C.1.2.1
  have hl : lv_has ls 2 [(0, .ref (k.2 (20 + i))), (1, .int (nI j))] := hl
  obtain ⟨H, hH⟩ : ∃ H, H = s.heap := ⟨_, rfl⟩
  obtain ⟨locs, hlocs⟩ : ∃ q : List Loc, q = [] := ⟨_, rfl⟩
  have hP : va_P D vwCl [] H := by rw [hH]; exact hP
  have hS : va_S A s.heap H locs := by rw [hH, hlocs]; exact hS
  rw [← hlocs]
  suffices hgoal : W p l e ({ frames := 2, cells := 0, slots := 0, locals := 60 }) s m ([.ref (k.2 (20 + i)), .int (nI j)] : List Value).toArray below meth c H locs 0 0 Q (F0 m 0 ls []) by rw [hH] at hgoal; exact hgoal
  clear hH hlocs
  have hlen := ta_len_ok i hi
  refine lv_iload_n hx hb dJ1_charAt_3b067_0 rfl (lv_at hl 1 rfl) ?_
  refine lv_aload_n hx hb dJ1_charAt_3b067_1 rfl (lv_at hl 0 rfl) ?_
  refine va_tlen hx hb (C.2.1.2.2.2.2.2.2.2.2.1.1 i (by omega)).2.2.2 hS (v := nI (ta_len.getD i 0)) rfl dJ1_charAt_3b067_2 ?_
  refine ta_callSv (As := [.int (nI j), .int (nI (ta_len.getD i 0))]) (rest0 := []) (Wr := []) C hP hD hS (c_J0_checkIndex l D k j (ta_len.getD i 0) hj (by omega)) [] [] rfl rfl (by decide) (by decide) (by decide) tw_227 tw_225 tw_204 tw_226 ⟨by decide, by decide, rfl⟩ ⟨Nat.le_of_ble_eq_true rfl, Nat.le_of_ble_eq_true rfl⟩ ⟨Nat.zero_le _, Nat.zero_le _⟩ hl.1 rfl (Nat.le_of_ble_eq_true rfl) dJ1_charAt_3b067_3 (fun u2 H locs h3 hP hD hS => ?_)
  have hP : va_P D vwCl [] H := hP
  have hD : va_D A [] := hD
  refine lv_aload_n hx hb dJ1_charAt_3b067_6 rfl (lv_at hl 0 rfl) ?_
  refine lv_iload_n hx hb dJ1_charAt_3b067_7 rfl (lv_at hl 1 rfl) ?_
  refine va_tb hx hb (C.2.1.2.2.2.2.2.2.2.2.1.1 i (by omega)).2.2.2 hS (vp_in_nI (n := j) (by omega) (by omega)) (v := .int ((ta_byt.getD i []).getD j 0)) (by rw [nI_clamp (by omega)]) dJ1_charAt_3b067_8 ?_
  refine ta_sipush C 255 dJ1_charAt_3b067_9 (by decide) ?_
  refine lv_iand hx hb dJ1_charAt_3b067_12 ?_
  refine lv_i2c (v := nI (ta_chr i j)) hx hb dJ1_charAt_3b067_13 (ta_chr_ok i hi j hj).1 ?_
  have hch := (ta_chr_ok i hi j hj).2
  exact ret (nI (ta_chr i j)) () dJ1_charAt_3b067_14 (pk_charN (by omega)).1 rfl hP hD hS

set_option maxHeartbeats 4000000 in
set_option maxRecDepth 100000 in
theorem c_J0_charAt (l : Launch) (D : va_G) (k : ta_C) (i : Nat) (j : Nat) (hi : i < 10) (hj : j < ta_len.getD i 0) : ta_Mi (S := Unit) l D k yJ0_charAt_5068e cJ0_charAt_5068e 2 .char 3 90 [.ref (k.2 (10 + i)), .int (nI j)] [] (fun r _ => r = nI (ta_chr i j)) (fun u => []) := by
  refine ta_enter_i (by decide) (Nat.le_of_ble_eq_true rfl) ?_
  intro p e s m below meth c A ls Q C ret hP hD hS hl
  have C : ta_At p l D k s m ([.ref (k.2 (10 + i)), .int (nI j)] : List Value).toArray c RJ0 cJ0_charAt_5068e 2 A := C
  have hx := C.1.1
  have hb := C.1.2.1
  have hl : lv_has ls 2 [(0, .ref (k.2 (10 + i))), (1, .int (nI j))] := hl
  obtain ⟨H, hH⟩ : ∃ H, H = s.heap := ⟨_, rfl⟩
  obtain ⟨locs, hlocs⟩ : ∃ q : List Loc, q = [] := ⟨_, rfl⟩
  have hP : va_P D vwCl [] H := by rw [hH]; exact hP
  have hS : va_S A s.heap H locs := by rw [hH, hlocs]; exact hS
  rw [← hlocs]
  suffices hgoal : W p l e ({ frames := 3, cells := 0, slots := 0, locals := 90 }) s m ([.ref (k.2 (10 + i)), .int (nI j)] : List Value).toArray below meth c H locs 0 0 Q (F0 m 0 ls []) by rw [hH] at hgoal; exact hgoal
  clear hH hlocs
  have hlen := ta_len_ok i hi
  have hch := (ta_chr_ok i hi j hj).2
  refine lv_aload_n hx hb dJ0_charAt_5068e_0 rfl (lv_at hl 0 rfl) ?_
  refine ta_callKi (i := i) (As := []) (rest0 := []) C hP hD hS (c_J0_isLatin1 l D k i (by omega)) (by omega) rfl tw_220 tw_217 tw_204 tw_218 tw_219 ⟨by decide, by decide, rfl⟩ ⟨Nat.le_of_ble_eq_true rfl, Nat.le_of_ble_eq_true rfl⟩ ⟨Nat.zero_le _, Nat.zero_le _⟩ hl.1 rfl (Nat.le_of_ble_eq_true rfl) dJ0_charAt_5068e_1 (fun r1 u2 H locs h3 hP hS => ?_)
  obtain rfl := h3
  have hP : va_P D vwCl [] H := hP
  have hD : va_D A [] := hD
  refine lv_if_eq (tgt := 16) hx hb dJ0_charAt_5068e_4 (by decide) (fun c4 => ?_) (fun c4 => ?_)
  · exact absurd c4 (by decide)
  · refine lv_aload_n hx hb dJ0_charAt_5068e_7 rfl (lv_at hl 0 rfl) ?_
    refine vk_getf hx hb (C.2.1.2.2.2.2.2.2.2.2.1.1 i (by omega)).2.2.1 hS C.1.2.2.2.1 (C.1.2.2.2.2 _ tw_206) (fun _ h => h) dJ0_charAt_5068e_8 ?_
    refine lv_iload_n hx hb dJ0_charAt_5068e_11 rfl (lv_at hl 1 rfl) ?_
    refine ta_callSi (As := [.ref (k.2 (20 + i)), .int (nI j)]) (rest0 := []) (Wr := []) C hP hD hS (c_J1_charAt l D k i j (by omega) hj) [] [] rfl rfl (by decide) (by decide) (by decide) tw_224 tw_221 tw_223 tw_222 ⟨by decide, by decide, rfl⟩ ⟨Nat.le_of_ble_eq_true rfl, Nat.le_of_ble_eq_true rfl⟩ ⟨Nat.zero_le _, Nat.zero_le _⟩ hl.1 rfl (Nat.le_of_ble_eq_true rfl) dJ0_charAt_5068e_12 (fun r5 u6 H locs h7 hP hD hS => ?_)
    obtain rfl := h7
    have hP : va_P D vwCl [] H := hP
    have hD : va_D A [] := hD
    exact ret (nI (ta_chr i j)) () dJ0_charAt_5068e_15 (pk_charN (by omega)).1 rfl hP hD hS

set_option maxHeartbeats 4000000 in
set_option maxRecDepth 100000 in
theorem c_X6_append (l : Launch) (D : va_G) (k : ta_C) (x : Nat → Nat) (L : Nat) (tx : Nat → Nat) (a : Nat) (hL : L < 160) : ta_Mi (S := Unit) l D k yX6_append cX6_append 2 .boolean 0 0 [.ref (x 0), .int (nI a)] (txW k x L tx) (fun r _ => r = nI 1) (fun u => (txW k x (L + 1) (ta_u tx L a))) := by
  refine ta_enter_i (by decide) (Nat.le_of_ble_eq_true rfl) ?_
  intro p e s m below meth c A ls Q C ret hP hD hS hl
  have C : ta_At p l D k s m ([.ref (x 0), .int (nI a)] : List Value).toArray c RX6 cX6_append 2 A := C
  have hx := C.1.1
  have hb := C.1.2.1
  have hl : lv_has ls 2 [(0, .ref (x 0)), (1, .int (nI a))] := hl
  obtain ⟨H, hH⟩ : ∃ H, H = s.heap := ⟨_, rfl⟩
  obtain ⟨locs, hlocs⟩ : ∃ q : List Loc, q = [] := ⟨_, rfl⟩
  have hP : va_P D vwCl (txW k x L tx) H := by rw [hH]; exact hP
  have hS : va_S A s.heap H locs := by rw [hH, hlocs]; exact hS
  rw [← hlocs]
  suffices hgoal : W p l e ({ frames := 0, cells := 0, slots := 0, locals := 0 }) s m ([.ref (x 0), .int (nI a)] : List Value).toArray below meth c H locs 0 0 Q (F0 m 0 ls []) by rw [hH] at hgoal; exact hgoal
  clear hH hlocs
  have hP : va_P D vwCl [(x 0, .inr (6, [.ref (x 1), .int (nI L)])), (x 1, .inl (k.1 0, 160, .inl (ta_e tx)))] H := hP
  have hD : va_D A [(x 0, .inr (6, [.ref (x 1), .int (nI L)])), (x 1, .inl (k.1 0, 160, .inl (ta_e tx)))] := hD
  refine lv_aload_n hx hb dX6_append_0 rfl (lv_at hl 0 rfl) ?_
  refine ta_get C hP 0 inlX6 rfl rfl 1 (by decide) tw_45 rfl dX6_append_1 ?_
  refine ta_sipush C 160 dX6_append_4 (by decide) ?_
  refine ta_clt C (a := L) (b := 160) (tgt := 12) (by omega) (by omega) dX6_append_7 (by decide) (fun c1 => ?_) (fun c1 => ?_)
  · refine lv_aload_n hx hb dX6_append_12 rfl (lv_at hl 0 rfl) ?_
    refine ta_get C hP 0 inlX6 rfl rfl 0 (by decide) tw_44 rfl dX6_append_13 ?_
    refine lv_aload_n hx hb dX6_append_16 rfl (lv_at hl 0 rfl) ?_
    refine ta_get C hP 0 inlX6 rfl rfl 1 (by decide) tw_45 rfl dX6_append_17 ?_
    refine lv_iload_n hx hb dX6_append_20 rfl (lv_at hl 1 rfl) ?_
    refine ta_iast C hP hD hS 1 rfl (i := L) (v := a) (by omega) dX6_append_21 (fun H locs hP hD hS => ?_)
    have hP : va_P D vwCl [(x 0, .inr (6, [.ref (x 1), .int (nI L)])), (x 1, .inl (k.1 0, 160, .inl (ta_e (ta_u tx L a))))] H := hP
    have hD : va_D A [(x 0, .inr (6, [.ref (x 1), .int (nI L)])), (x 1, .inl (k.1 0, 160, .inl (ta_e (ta_u tx L a))))] := hD
    refine lv_aload_n hx hb dX6_append_22 rfl (lv_at hl 0 rfl) ?_
    refine lv_dup hx hb dX6_append_23 rfl ?_
    refine ta_get C hP 0 inlX6 rfl rfl 1 (by decide) tw_45 rfl dX6_append_24 ?_
    refine ta_iconst C 1 dX6_append_27 (by decide) ?_
    refine ta_iadd C (a := L) (b := 1) dX6_append_28 ?_
    refine ta_put C hP hD hS 0 inlX6 tyX6 tyX6_ok nmX6 rfl rfl 1 (by decide) tw_45 rfl rfl rfl (Nat.le_of_ble_eq_true rfl) dX6_append_29 (fun H locs hP hD hS => ?_)
    have hP : va_P D vwCl [(x 0, .inr (6, [.ref (x 1), .int (nI (L + 1))])), (x 1, .inl (k.1 0, 160, .inl (ta_e (ta_u tx L a))))] H := hP
    have hD : va_D A [(x 0, .inr (6, [.ref (x 1), .int (nI (L + 1))])), (x 1, .inl (k.1 0, 160, .inl (ta_e (ta_u tx L a))))] := hD
    refine ta_iconst C 1 dX6_append_32 (by decide) ?_
    exact ret (nI 1) () dX6_append_33 (by decide) rfl hP hD hS
  · exfalso; omega

set_option maxHeartbeats 4000000 in
set_option maxRecDepth 100000 in
theorem c_X6_append_f (l : Launch) (D : va_G) (k : ta_C) (x : Nat → Nat) (L : Nat) (tx : Nat → Nat) (a : Nat) (hL : 160 ≤ L ∧ L < 1000) : ta_Mi (S := Unit) l D k yX6_append cX6_append 2 .boolean 0 0 [.ref (x 0), .int (nI a)] (txW k x L tx) (fun r _ => r = nI 0) (fun u => (txW k x L tx)) := by
  refine ta_enter_i (by decide) (Nat.le_of_ble_eq_true rfl) ?_
  intro p e s m below meth c A ls Q C ret hP hD hS hl
  have C : ta_At p l D k s m ([.ref (x 0), .int (nI a)] : List Value).toArray c RX6 cX6_append 2 A := C
  have hx := C.1.1
  have hb := C.1.2.1
  have hl : lv_has ls 2 [(0, .ref (x 0)), (1, .int (nI a))] := hl
  obtain ⟨H, hH⟩ : ∃ H, H = s.heap := ⟨_, rfl⟩
  obtain ⟨locs, hlocs⟩ : ∃ q : List Loc, q = [] := ⟨_, rfl⟩
  have hP : va_P D vwCl (txW k x L tx) H := by rw [hH]; exact hP
  have hS : va_S A s.heap H locs := by rw [hH, hlocs]; exact hS
  rw [← hlocs]
  suffices hgoal : W p l e ({ frames := 0, cells := 0, slots := 0, locals := 0 }) s m ([.ref (x 0), .int (nI a)] : List Value).toArray below meth c H locs 0 0 Q (F0 m 0 ls []) by rw [hH] at hgoal; exact hgoal
  clear hH hlocs
  have hP : va_P D vwCl [(x 0, .inr (6, [.ref (x 1), .int (nI L)])), (x 1, .inl (k.1 0, 160, .inl (ta_e tx)))] H := hP
  have hD : va_D A [(x 0, .inr (6, [.ref (x 1), .int (nI L)])), (x 1, .inl (k.1 0, 160, .inl (ta_e tx)))] := hD
  refine lv_aload_n hx hb dX6_append_0 rfl (lv_at hl 0 rfl) ?_
  refine ta_get C hP 0 inlX6 rfl rfl 1 (by decide) tw_45 rfl dX6_append_1 ?_
  refine ta_sipush C 160 dX6_append_4 (by decide) ?_
  refine ta_clt C (a := L) (b := 160) (tgt := 12) (by omega) (by omega) dX6_append_7 (by decide) (fun c1 => ?_) (fun c1 => ?_)
  · exfalso; omega
  · refine ta_iconst C 0 dX6_append_10 (by decide) ?_
    exact ret (nI 0) () dX6_append_11 (by decide) rfl hP hD hS

set_option maxHeartbeats 4000000 in
set_option maxRecDepth 100000 in
theorem c_X6_sortAt (l : Launch) (D : va_G) (k : ta_C) (x : Nat → Nat) (L : Nat) (tx : Nat → Nat) (p0 : Nat) (hx0 : tx_ok tx L) (hp : p0 < 1000) : ta_Mi (S := Unit) l D k yX6_sortAt cX6_sortAt 3 .int 0 0 [.ref (x 0), .int (nI p0)] (txW k x L tx) (fun r _ => r = nI (tx_s tx L p0)) (fun u => (txW k x L tx)) := by
  refine ta_enter_i (by decide) (Nat.le_of_ble_eq_true rfl) ?_
  intro p e s m below meth c A ls Q C ret hP hD hS hl
  have C : ta_At p l D k s m ([.ref (x 0), .int (nI p0)] : List Value).toArray c RX6 cX6_sortAt 3 A := C
  have hx := C.1.1
  have hb := C.1.2.1
  have hl : lv_has ls 3 [(0, .ref (x 0)), (1, .int (nI p0))] := hl
  obtain ⟨H, hH⟩ : ∃ H, H = s.heap := ⟨_, rfl⟩
  obtain ⟨locs, hlocs⟩ : ∃ q : List Loc, q = [] := ⟨_, rfl⟩
  have hP : va_P D vwCl (txW k x L tx) H := by rw [hH]; exact hP
  have hS : va_S A s.heap H locs := by rw [hH, hlocs]; exact hS
  rw [← hlocs]
  suffices hgoal : W p l e ({ frames := 0, cells := 0, slots := 0, locals := 0 }) s m ([.ref (x 0), .int (nI p0)] : List Value).toArray below meth c H locs 0 0 Q (F0 m 0 ls []) by rw [hH] at hgoal; exact hgoal
  clear hH hlocs
  have hP : va_P D vwCl [(x 0, .inr (6, [.ref (x 1), .int (nI L)])), (x 1, .inl (k.1 0, 160, .inl (ta_e tx)))] H := hP
  have hD : va_D A [(x 0, .inr (6, [.ref (x 1), .int (nI L)])), (x 1, .inl (k.1 0, 160, .inl (ta_e tx)))] := hD
  obtain ⟨hL, hc⟩ := hx0
  refine lv_iload_n hx hb dX6_sortAt_0 rfl (lv_at hl 1 rfl) ?_
  refine ta_ilt C (a := p0) (tgt := 12) (by omega) dX6_sortAt_1 (by decide) ?_
  refine lv_iload_n hx hb dX6_sortAt_4 rfl (lv_at hl 1 rfl) ?_
  refine lv_aload_n hx hb dX6_sortAt_5 rfl (lv_at hl 0 rfl) ?_
  refine ta_get C hP 0 inlX6 rfl rfl 1 (by decide) tw_45 rfl dX6_sortAt_6 ?_
  refine ta_clt C (a := p0) (b := L) (tgt := 14) (by omega) (by omega) dX6_sortAt_9 (by decide) (fun c2 => ?_) (fun c2 => ?_)
  · refine lv_aload_n hx hb dX6_sortAt_14 rfl (lv_at hl 0 rfl) ?_
    refine ta_get C hP 0 inlX6 rfl rfl 0 (by decide) tw_44 rfl dX6_sortAt_15 ?_
    refine lv_iload_n hx hb dX6_sortAt_18 rfl (lv_at hl 1 rfl) ?_
    refine ta_iald C hP 1 rfl (i := p0) (by omega) dX6_sortAt_19 ?_
    have hcp := hc p0 (by omega)
    refine lv_istore_n (lv' := [(2, .int (nI (tx p0))), (0, .ref (x 0)), (1, .int (nI p0))]) hx hb dX6_sortAt_20 rfl hl (by decide) rfl (fun ls hl => ?_)
    refine lv_iload_n hx hb dX6_sortAt_21 rfl (lv_at hl 0 rfl) ?_
    refine ta_bipush C 97 dX6_sortAt_22 (by decide) ?_
    refine ta_clt C (a := tx p0) (b := 97) (tgt := 35) (by omega) (by omega) dX6_sortAt_24 (by decide) (fun c3 => ?_) (fun c3 => ?_)
    · refine lv_iload_n hx hb dX6_sortAt_35 rfl (lv_at hl 0 rfl) ?_
      refine ta_bipush C 48 dX6_sortAt_36 (by decide) ?_
      refine ta_clt C (a := tx p0) (b := 48) (tgt := 49) (by omega) (by omega) dX6_sortAt_38 (by decide) (fun c4 => ?_) (fun c4 => ?_)
      · refine lv_iload_n hx hb dX6_sortAt_49 rfl (lv_at hl 0 rfl) ?_
        refine ta_bipush C 32 dX6_sortAt_50 (by decide) ?_
        refine ta_cne C (a := tx p0) (b := 32) (tgt := 59) (by omega) (by omega) dX6_sortAt_52 (by decide) (fun c5 => ?_) (fun c5 => ?_)
        · refine ta_iconst C 3 dX6_sortAt_59 (by decide) ?_
          have es : tx_s tx L p0 = 3 := by
            unfold tx_s
            (repeat' split) <;> omega
          exact ret _ () dX6_sortAt_60 rfl (by rw [es]) hP hD hS
        · refine ta_iconst C 0 dX6_sortAt_55 (by decide) ?_
          refine lv_goto (tgt := 60) hx hb dX6_sortAt_56 (by decide) ?_
          have es : tx_s tx L p0 = 0 := by
            unfold tx_s
            (repeat' split) <;> omega
          exact ret _ () dX6_sortAt_60 rfl (by rw [es]) hP hD hS
      · refine lv_iload_n hx hb dX6_sortAt_41 rfl (lv_at hl 0 rfl) ?_
        refine ta_bipush C 57 dX6_sortAt_42 (by decide) ?_
        refine ta_cgt C (a := tx p0) (b := 57) (tgt := 49) (by omega) (by omega) dX6_sortAt_44 (by decide) (fun c6 => ?_) (fun c6 => ?_)
        · refine lv_iload_n hx hb dX6_sortAt_49 rfl (lv_at hl 0 rfl) ?_
          refine ta_bipush C 32 dX6_sortAt_50 (by decide) ?_
          refine ta_cne C (a := tx p0) (b := 32) (tgt := 59) (by omega) (by omega) dX6_sortAt_52 (by decide) (fun c7 => ?_) (fun c7 => ?_)
          · refine ta_iconst C 3 dX6_sortAt_59 (by decide) ?_
            have es : tx_s tx L p0 = 3 := by
              unfold tx_s
              (repeat' split) <;> omega
            exact ret _ () dX6_sortAt_60 rfl (by rw [es]) hP hD hS
          · refine ta_iconst C 0 dX6_sortAt_55 (by decide) ?_
            refine lv_goto (tgt := 60) hx hb dX6_sortAt_56 (by decide) ?_
            have es : tx_s tx L p0 = 0 := by
              unfold tx_s
              (repeat' split) <;> omega
            exact ret _ () dX6_sortAt_60 rfl (by rw [es]) hP hD hS
        · refine ta_iconst C 2 dX6_sortAt_47 (by decide) ?_
          have es : tx_s tx L p0 = 2 := by
            unfold tx_s
            (repeat' split) <;> omega
          exact ret _ () dX6_sortAt_48 rfl (by rw [es]) hP hD hS
    · refine lv_iload_n hx hb dX6_sortAt_27 rfl (lv_at hl 0 rfl) ?_
      refine ta_bipush C 122 dX6_sortAt_28 (by decide) ?_
      refine ta_cgt C (a := tx p0) (b := 122) (tgt := 35) (by omega) (by omega) dX6_sortAt_30 (by decide) (fun c8 => ?_) (fun c8 => ?_)
      · refine lv_iload_n hx hb dX6_sortAt_35 rfl (lv_at hl 0 rfl) ?_
        refine ta_bipush C 48 dX6_sortAt_36 (by decide) ?_
        refine ta_clt C (a := tx p0) (b := 48) (tgt := 49) (by omega) (by omega) dX6_sortAt_38 (by decide) (fun c9 => ?_) (fun c9 => ?_)
        · refine lv_iload_n hx hb dX6_sortAt_49 rfl (lv_at hl 0 rfl) ?_
          refine ta_bipush C 32 dX6_sortAt_50 (by decide) ?_
          refine ta_cne C (a := tx p0) (b := 32) (tgt := 59) (by omega) (by omega) dX6_sortAt_52 (by decide) (fun c10 => ?_) (fun c10 => ?_)
          · refine ta_iconst C 3 dX6_sortAt_59 (by decide) ?_
            have es : tx_s tx L p0 = 3 := by
              unfold tx_s
              (repeat' split) <;> omega
            exact ret _ () dX6_sortAt_60 rfl (by rw [es]) hP hD hS
          · refine ta_iconst C 0 dX6_sortAt_55 (by decide) ?_
            refine lv_goto (tgt := 60) hx hb dX6_sortAt_56 (by decide) ?_
            have es : tx_s tx L p0 = 0 := by
              unfold tx_s
              (repeat' split) <;> omega
            exact ret _ () dX6_sortAt_60 rfl (by rw [es]) hP hD hS
        · refine lv_iload_n hx hb dX6_sortAt_41 rfl (lv_at hl 0 rfl) ?_
          refine ta_bipush C 57 dX6_sortAt_42 (by decide) ?_
          refine ta_cgt C (a := tx p0) (b := 57) (tgt := 49) (by omega) (by omega) dX6_sortAt_44 (by decide) (fun c11 => ?_) (fun c11 => ?_)
          · refine lv_iload_n hx hb dX6_sortAt_49 rfl (lv_at hl 0 rfl) ?_
            refine ta_bipush C 32 dX6_sortAt_50 (by decide) ?_
            refine ta_cne C (a := tx p0) (b := 32) (tgt := 59) (by omega) (by omega) dX6_sortAt_52 (by decide) (fun c12 => ?_) (fun c12 => ?_)
            · refine ta_iconst C 3 dX6_sortAt_59 (by decide) ?_
              have es : tx_s tx L p0 = 3 := by
                unfold tx_s
                (repeat' split) <;> omega
              exact ret _ () dX6_sortAt_60 rfl (by rw [es]) hP hD hS
            · refine ta_iconst C 0 dX6_sortAt_55 (by decide) ?_
              refine lv_goto (tgt := 60) hx hb dX6_sortAt_56 (by decide) ?_
              have es : tx_s tx L p0 = 0 := by
                unfold tx_s
                (repeat' split) <;> omega
              exact ret _ () dX6_sortAt_60 rfl (by rw [es]) hP hD hS
          · refine ta_iconst C 2 dX6_sortAt_47 (by decide) ?_
            have es : tx_s tx L p0 = 2 := by
              unfold tx_s
              (repeat' split) <;> omega
            exact ret _ () dX6_sortAt_48 rfl (by rw [es]) hP hD hS
      · refine ta_iconst C 1 dX6_sortAt_33 (by decide) ?_
        have es : tx_s tx L p0 = 1 := by
          unfold tx_s
          (repeat' split) <;> omega
        exact ret _ () dX6_sortAt_34 rfl (by rw [es]) hP hD hS
  · refine ta_iconst C 3 dX6_sortAt_12 (by decide) ?_
    have es : tx_s tx L p0 = 3 := by
      unfold tx_s
      (repeat' split) <;> omega
    exact ret _ () dX6_sortAt_13 rfl (by rw [es]) hP hD hS
