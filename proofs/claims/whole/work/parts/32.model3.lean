/-! the reference's reading: sort (0 end, 1 letters, 2 digits, 3 other) and value of a token -/
def mo_s (tx : Nat → Nat) (L p : Nat) : Nat := if tn_s tx L p < L then tx_s tx L (tn_s tx L p) else 0
def mo_v (tx : Nat → Nat) (s e : Nat) : Nat := if e - s = 0 then 0 else if e - s = 1 then tx s - 48 else if e - s = 2 then 10 * (tx s - 48) + (tx (s + 1) - 48) else 100
def mo_w (tx : Nat → Nat) (L p : Nat) : Nat := if mo_s tx L p = 2 then mo_v tx (tn_s tx L p) (tn_e tx L p) else 0
theorem tk_st_nb {tx : Nat → Nat} {L : Nat} : ∀ (n p : Nat), L - p = n → tx_s tx L (tk_st tx L p) ≠ 0
  | 0, p, h => by
    have e : tk_st tx L p = p := by unfold tk_st; rw [h]; rfl
    rw [e]
    intro h9
    have := tx_s0 (tx := tx) (L := L) (p := p) (by omega)
    omega
  | n + 1, p, h => by
    by_cases c : tx_s tx L p = 0
    · rw [tk_st_y c]; exact tk_st_nb n (p + 1) (by omega)
    · rw [tk_st_n c]; exact c
set_option maxHeartbeats 4000000 in
set_option maxRecDepth 100000 in
theorem c_X8_letterAt (l : Launch) (D : va_G) (k : ta_C) (z : Nat → Nat) (kn : Nat) (no : Nat) (at_ : Nat) (so : Nat) (sr : Nat) (va : Nat) (L : Nat) (tx : Nat → Nat) (p0 : Nat) (hL : L ≤ 160) (hp0 : p0 < 1000) : ta_Mi (S := Unit) l D k yX8_letterAt cX8_letterAt 2 .int 0 0 [.ref (z 0), .int (nI p0)] [(z 0, .inr (8, [.ref (z 1), .int (nI L), .ref (z 2), .ref (z 3), .ref (z 4), .ref (z 5), .int (nI kn), .ref (z 6), .ref (z 7), .ref (z 8), .int (nI no), .int (nI at_), .int (nI so), .int (nI sr), .int (nI va), .ref (z 9)])), (z 1, .inl (k.1 0, 160, .inl (ta_e tx)))] (fun r _ => (p0 < L ∧ r = nI (tx p0)) ∨ (L ≤ p0 ∧ r = nI 4294967295)) (fun u => [(z 0, .inr (8, [.ref (z 1), .int (nI L), .ref (z 2), .ref (z 3), .ref (z 4), .ref (z 5), .int (nI kn), .ref (z 6), .ref (z 7), .ref (z 8), .int (nI no), .int (nI at_), .int (nI so), .int (nI sr), .int (nI va), .ref (z 9)])), (z 1, .inl (k.1 0, 160, .inl (ta_e tx)))]) := by
  refine ta_enter_i (by decide) (Nat.le_of_ble_eq_true rfl) ?_
  intro p e s m below meth c A ls Q C ret hP hD hS hl
  have C : ta_At p l D k s m ([.ref (z 0), .int (nI p0)] : List Value).toArray c RX8 cX8_letterAt 2 A := C
  have hx := C.1.1
  have hb := C.1.2.1
  have hl : lv_has ls 2 [(0, .ref (z 0)), (1, .int (nI p0))] := hl
  obtain ⟨H, hH⟩ : ∃ H, H = s.heap := ⟨_, rfl⟩
  obtain ⟨locs, hlocs⟩ : ∃ q : List Loc, q = [] := ⟨_, rfl⟩
  have hP : va_P D vwCl [(z 0, .inr (8, [.ref (z 1), .int (nI L), .ref (z 2), .ref (z 3), .ref (z 4), .ref (z 5), .int (nI kn), .ref (z 6), .ref (z 7), .ref (z 8), .int (nI no), .int (nI at_), .int (nI so), .int (nI sr), .int (nI va), .ref (z 9)])), (z 1, .inl (k.1 0, 160, .inl (ta_e tx)))] H := by rw [hH]; exact hP
  have hS : va_S A s.heap H locs := by rw [hH, hlocs]; exact hS
  rw [← hlocs]
  suffices hgoal : W p l e ({ frames := 0, cells := 0, slots := 0, locals := 0 }) s m ([.ref (z 0), .int (nI p0)] : List Value).toArray below meth c H locs 0 0 Q (F0 m 0 ls []) by rw [hH] at hgoal; exact hgoal
  clear hH hlocs
  refine lv_iload_n hx hb dX8_letterAt_0 rfl (lv_at hl 1 rfl) ?_
  refine lv_aload_n hx hb dX8_letterAt_1 rfl (lv_at hl 0 rfl) ?_
  refine ta_get C hP 0 inlX8 rfl rfl 1 (by decide) tw_156 rfl dX8_letterAt_2 ?_
  refine ta_cge C (a := p0) (b := L) (tgt := 17) (by omega) (by omega) dX8_letterAt_5 (by decide) (fun c1 => ?_) (fun c1 => ?_)
  · refine ta_iconst C 4294967295 dX8_letterAt_17 (by decide) ?_
    exact ret _ () dX8_letterAt_18 rfl (Or.inr ⟨by omega, rfl⟩) hP hD hS
  · refine lv_aload_n hx hb dX8_letterAt_8 rfl (lv_at hl 0 rfl) ?_
    refine ta_get C hP 0 inlX8 rfl rfl 0 (by decide) tw_125 rfl dX8_letterAt_9 ?_
    refine lv_iload_n hx hb dX8_letterAt_12 rfl (lv_at hl 1 rfl) ?_
    refine ta_iald C hP 1 rfl (i := p0) (by omega) dX8_letterAt_13 ?_
    refine lv_goto (tgt := 18) hx hb dX8_letterAt_14 (by decide) ?_
    exact ret _ () dX8_letterAt_18 rfl (Or.inl ⟨by omega, rfl⟩) hP hD hS

set_option maxHeartbeats 4000000 in
set_option maxRecDepth 100000 in
theorem c_X8_isLetter (l : Launch) (D : va_G) (k : ta_C) (v : Nat) (hv32 : v < 4294967296) : ta_Mi (S := Unit) l D k yX8_isLetter cX8_isLetter 1 .boolean 1 30 [.int (nI v)] [] (fun r _ => ((97 ≤ v ∧ v ≤ 122) ∧ r = nI 1) ∨ (¬ (97 ≤ v ∧ v ≤ 122) ∧ r = nI 0)) (fun u => []) := by
  refine ta_enter_i (by decide) (Nat.le_of_ble_eq_true rfl) ?_
  intro p e s m below meth c A ls Q C ret hP hD hS hl
  have C : ta_At p l D k s m ([.int (nI v)] : List Value).toArray c RX8 cX8_isLetter 1 A := C
  have hx := C.1.1
  have hb := C.1.2.1
  have hl : lv_has ls 1 [(0, .int (nI v))] := hl
  obtain ⟨H, hH⟩ : ∃ H, H = s.heap := ⟨_, rfl⟩
  obtain ⟨locs, hlocs⟩ : ∃ q : List Loc, q = [] := ⟨_, rfl⟩
  have hP : va_P D vwCl [] H := by rw [hH]; exact hP
  have hS : va_S A s.heap H locs := by rw [hH, hlocs]; exact hS
  rw [← hlocs]
  suffices hgoal : W p l e ({ frames := 1, cells := 0, slots := 0, locals := 30 }) s m ([.int (nI v)] : List Value).toArray below meth c H locs 0 0 Q (F0 m 0 ls []) by rw [hH] at hgoal; exact hgoal
  clear hH hlocs
  refine lv_iload_n hx hb dX8_isLetter_0 rfl (lv_at hl 0 rfl) ?_
  refine ta_bipush C 97 dX8_isLetter_1 (by decide) ?_
  refine ta_bipush C 122 dX8_isLetter_3 (by decide) ?_
  refine ta_callSi (As := [.int (nI v), .int (nI 97), .int (nI 122)]) (rest0 := []) (Wr := []) C hP hD hS (c_X8_in_w l D k v 97 122 (by omega) (by omega) (by omega)) [] [] rfl rfl (by decide) (by decide) (by decide) tw_159 tw_157 tw_5 tw_158 ⟨by decide, by decide, rfl⟩ ⟨Nat.le_of_ble_eq_true rfl, Nat.le_of_ble_eq_true rfl⟩ ⟨Nat.zero_le _, Nat.zero_le _⟩ hl.1 rfl (Nat.le_of_ble_eq_true rfl) dX8_isLetter_5 (fun r1 u2 H locs h3 hP hD hS => ?_)
  rcases h3 with h0 | h0
  · obtain ⟨hi4, rfl⟩ := h0
    have hP : va_P D vwCl [] H := hP
    have hD : va_D A [] := hD
    exact ret _ () dX8_isLetter_8 (by decide) (Or.inl ⟨hi4, rfl⟩) hP hD hS
  · obtain ⟨hi5, rfl⟩ := h0
    have hP : va_P D vwCl [] H := hP
    have hD : va_D A [] := hD
    exact ret _ () dX8_isLetter_8 (by decide) (Or.inr ⟨hi5, rfl⟩) hP hD hS

set_option maxHeartbeats 4000000 in
set_option maxRecDepth 100000 in
theorem c_X8_isDigit (l : Launch) (D : va_G) (k : ta_C) (v : Nat) (hv32 : v < 4294967296) : ta_Mi (S := Unit) l D k yX8_isDigit cX8_isDigit 1 .boolean 1 30 [.int (nI v)] [] (fun r _ => ((48 ≤ v ∧ v ≤ 57) ∧ r = nI 1) ∨ (¬ (48 ≤ v ∧ v ≤ 57) ∧ r = nI 0)) (fun u => []) := by
  refine ta_enter_i (by decide) (Nat.le_of_ble_eq_true rfl) ?_
  intro p e s m below meth c A ls Q C ret hP hD hS hl
  have C : ta_At p l D k s m ([.int (nI v)] : List Value).toArray c RX8 cX8_isDigit 1 A := C
  have hx := C.1.1
  have hb := C.1.2.1
  have hl : lv_has ls 1 [(0, .int (nI v))] := hl
  obtain ⟨H, hH⟩ : ∃ H, H = s.heap := ⟨_, rfl⟩
  obtain ⟨locs, hlocs⟩ : ∃ q : List Loc, q = [] := ⟨_, rfl⟩
  have hP : va_P D vwCl [] H := by rw [hH]; exact hP
  have hS : va_S A s.heap H locs := by rw [hH, hlocs]; exact hS
  rw [← hlocs]
  suffices hgoal : W p l e ({ frames := 1, cells := 0, slots := 0, locals := 30 }) s m ([.int (nI v)] : List Value).toArray below meth c H locs 0 0 Q (F0 m 0 ls []) by rw [hH] at hgoal; exact hgoal
  clear hH hlocs
  refine lv_iload_n hx hb dX8_isDigit_0 rfl (lv_at hl 0 rfl) ?_
  refine ta_bipush C 48 dX8_isDigit_1 (by decide) ?_
  refine ta_bipush C 57 dX8_isDigit_3 (by decide) ?_
  refine ta_callSi (As := [.int (nI v), .int (nI 48), .int (nI 57)]) (rest0 := []) (Wr := []) C hP hD hS (c_X8_in_w l D k v 48 57 (by omega) (by omega) (by omega)) [] [] rfl rfl (by decide) (by decide) (by decide) tw_159 tw_157 tw_5 tw_158 ⟨by decide, by decide, rfl⟩ ⟨Nat.le_of_ble_eq_true rfl, Nat.le_of_ble_eq_true rfl⟩ ⟨Nat.zero_le _, Nat.zero_le _⟩ hl.1 rfl (Nat.le_of_ble_eq_true rfl) dX8_isDigit_5 (fun r1 u2 H locs h3 hP hD hS => ?_)
  rcases h3 with h0 | h0
  · obtain ⟨hi4, rfl⟩ := h0
    have hP : va_P D vwCl [] H := hP
    have hD : va_D A [] := hD
    exact ret _ () dX8_isDigit_8 (by decide) (Or.inl ⟨hi4, rfl⟩) hP hD hS
  · obtain ⟨hi5, rfl⟩ := h0
    have hP : va_P D vwCl [] H := hP
    have hD : va_D A [] := hD
    exact ret _ () dX8_isDigit_8 (by decide) (Or.inr ⟨hi5, rfl⟩) hP hD hS

set_option maxHeartbeats 4000000 in
set_option maxRecDepth 100000 in
theorem c_X8_token (l : Launch) (D : va_G) (k : ta_C) (z : Nat → Nat) (kn : Nat) (no : Nat) (at_ : Nat) (so : Nat) (sr : Nat) (va : Nat) (L : Nat) (tx : Nat → Nat) (hx0 : tx_ok tx L) (hat : at_ ≤ L) : ta_Mv (S := Unit) l D k yX8_token cX8_token 2 2 60 [.ref (z 0)] [(z 0, .inr (8, [.ref (z 1), .int (nI L), .ref (z 2), .ref (z 3), .ref (z 4), .ref (z 5), .int (nI kn), .ref (z 6), .ref (z 7), .ref (z 8), .int (nI no), .int (nI at_), .int (nI so), .int (nI sr), .int (nI va), .ref (z 9)])), (z 1, .inl (k.1 0, 160, .inl (ta_e tx)))] (fun _ => True) (fun u => [(z 0, .inr (8, [.ref (z 1), .int (nI L), .ref (z 2), .ref (z 3), .ref (z 4), .ref (z 5), .int (nI kn), .ref (z 6), .ref (z 7), .ref (z 8), .int (nI no), .int (nI (tn_e tx L at_)), .int (nI (mo_s tx L at_)), .int (nI (tn_s tx L at_)), .int (nI (mo_w tx L at_)), .ref (z 9)])), (z 1, .inl (k.1 0, 160, .inl (ta_e tx)))]) := by
  refine ta_enter_v (by decide) (Nat.le_of_ble_eq_true rfl) ?_
  intro p e s m below meth c A ls Q C ret hP hD hS hl
  have C : ta_At p l D k s m ([.ref (z 0)] : List Value).toArray c RX8 cX8_token 2 A := C
  have hx := C.1.1
  have hb := C.1.2.1
  have hl : lv_has ls 2 [(0, .ref (z 0))] := hl
  obtain ⟨H, hH⟩ : ∃ H, H = s.heap := ⟨_, rfl⟩
  obtain ⟨locs, hlocs⟩ : ∃ q : List Loc, q = [] := ⟨_, rfl⟩
  have hP : va_P D vwCl [(z 0, .inr (8, [.ref (z 1), .int (nI L), .ref (z 2), .ref (z 3), .ref (z 4), .ref (z 5), .int (nI kn), .ref (z 6), .ref (z 7), .ref (z 8), .int (nI no), .int (nI at_), .int (nI so), .int (nI sr), .int (nI va), .ref (z 9)])), (z 1, .inl (k.1 0, 160, .inl (ta_e tx)))] H := by rw [hH]; exact hP
  have hS : va_S A s.heap H locs := by rw [hH, hlocs]; exact hS
  rw [← hlocs]
  suffices hgoal : W p l e ({ frames := 2, cells := 0, slots := 0, locals := 60 }) s m ([.ref (z 0)] : List Value).toArray below meth c H locs 0 0 Q (F0 m 0 ls []) by rw [hH] at hgoal; exact hgoal
  clear hH hlocs
  obtain ⟨hL, hc⟩ := id hx0
  have join_26 : ∀ (s1 : Nat), (s1 ≤ L) → (s1 = tk_st tx L at_) → ∀ (H : Heap) (locs : List Loc) (ls : Array Slot), va_P D vwCl [(z 0, .inr (8, [.ref (z 1), .int (nI L), .ref (z 2), .ref (z 3), .ref (z 4), .ref (z 5), .int (nI kn), .ref (z 6), .ref (z 7), .ref (z 8), .int (nI no), .int (nI s1), .int (nI so), .int (nI sr), .int (nI va), .ref (z 9)])), (z 1, .inl (k.1 0, 160, .inl (ta_e tx)))] H → va_D A [(z 0, .inr (8, [.ref (z 1), .int (nI L), .ref (z 2), .ref (z 3), .ref (z 4), .ref (z 5), .int (nI kn), .ref (z 6), .ref (z 7), .ref (z 8), .int (nI no), .int (nI s1), .int (nI so), .int (nI sr), .int (nI va), .ref (z 9)])), (z 1, .inl (k.1 0, 160, .inl (ta_e tx)))] → va_S A s.heap H locs → lv_has ls 2 [(0, .ref (z 0))] → W p l e ({ frames := 2, cells := 0, slots := 0, locals := 60 }) s m ([.ref (z 0)] : List Value).toArray below meth c H locs 0 0 Q (F0 m 26 ls []) := by
    clear hP hD hS hl
    intro s1 hs1 hs2 H locs ls hP hD hS hl
    refine lv_aload_n hx hb dX8_token_26 rfl (lv_at hl 0 rfl) ?_
    refine lv_aload_n hx hb dX8_token_27 rfl (lv_at hl 0 rfl) ?_
    refine ta_get C hP 0 inlX8 rfl rfl 11 (by decide) tw_309 rfl dX8_token_28 ?_
    refine ta_put C hP hD hS 0 inlX8 tyX8 tyX8_ok nmX8 rfl rfl 13 (by decide) tw_304 rfl rfl rfl (Nat.le_of_ble_eq_true rfl) dX8_token_31 (fun H locs hP hD hS => ?_)
    have hP : va_P D vwCl [(z 0, .inr (8, [.ref (z 1), .int (nI L), .ref (z 2), .ref (z 3), .ref (z 4), .ref (z 5), .int (nI kn), .ref (z 6), .ref (z 7), .ref (z 8), .int (nI no), .int (nI s1), .int (nI so), .int (nI s1), .int (nI va), .ref (z 9)])), (z 1, .inl (k.1 0, 160, .inl (ta_e tx)))] H := hP
    have hD : va_D A [(z 0, .inr (8, [.ref (z 1), .int (nI L), .ref (z 2), .ref (z 3), .ref (z 4), .ref (z 5), .int (nI kn), .ref (z 6), .ref (z 7), .ref (z 8), .int (nI no), .int (nI s1), .int (nI so), .int (nI s1), .int (nI va), .ref (z 9)])), (z 1, .inl (k.1 0, 160, .inl (ta_e tx)))] := hD
    refine lv_aload_n hx hb dX8_token_34 rfl (lv_at hl 0 rfl) ?_
    refine lv_aload_n hx hb dX8_token_35 rfl (lv_at hl 0 rfl) ?_
    refine ta_get C hP 0 inlX8 rfl rfl 11 (by decide) tw_309 rfl dX8_token_36 ?_
    refine ta_callVi (As := [.int (nI s1)]) (rest0 := []) (Wr := []) C hP hD hS (c_X8_letterAt l D k z kn no s1 so s1 va L tx s1 (by omega) (by omega)) 0 rfl rfl rfl [0, 1] [] rfl rfl (by decide) (by decide) (by decide) tw_319 tw_316 tw_5 tw_317 tw_318 ⟨by decide, by decide, rfl⟩ ⟨Nat.le_of_ble_eq_true rfl, Nat.le_of_ble_eq_true rfl⟩ ⟨Nat.zero_le _, Nat.zero_le _⟩ hl.1 rfl (Nat.le_of_ble_eq_true rfl) dX8_token_39 (fun r1 u2 H locs h3 hP hD hS => ?_)
    rcases h3 with h0 | h0
    · obtain ⟨hlt4, rfl⟩ := h0
      have hP : va_P D vwCl [(z 0, .inr (8, [.ref (z 1), .int (nI L), .ref (z 2), .ref (z 3), .ref (z 4), .ref (z 5), .int (nI kn), .ref (z 6), .ref (z 7), .ref (z 8), .int (nI no), .int (nI s1), .int (nI so), .int (nI s1), .int (nI va), .ref (z 9)])), (z 1, .inl (k.1 0, 160, .inl (ta_e tx)))] H := hP
      have hD : va_D A [(z 0, .inr (8, [.ref (z 1), .int (nI L), .ref (z 2), .ref (z 3), .ref (z 4), .ref (z 5), .int (nI kn), .ref (z 6), .ref (z 7), .ref (z 8), .int (nI no), .int (nI s1), .int (nI so), .int (nI s1), .int (nI va), .ref (z 9)])), (z 1, .inl (k.1 0, 160, .inl (ta_e tx)))] := hD
      have hc1 := hc s1 (by omega)
      refine lv_istore_n (lv' := [(1, .int (nI (tx s1))), (0, .ref (z 0))]) hx hb dX8_token_42 rfl hl (by decide) rfl (fun ls hl => ?_)
      refine lv_aload_n hx hb dX8_token_43 rfl (lv_at hl 1 rfl) ?_
      refine lv_iload_n hx hb dX8_token_44 rfl (lv_at hl 0 rfl) ?_
      refine ta_ige C (a := tx s1) (tgt := 52) (by omega) dX8_token_45 (by decide) ?_
      refine lv_iload_n hx hb dX8_token_52 rfl (lv_at hl 0 rfl) ?_
      refine ta_callSi (As := [.int (nI (tx s1))]) (rest0 := [.ref (z 0)]) (Wr := [(z 0, .inr (8, [.ref (z 1), .int (nI L), .ref (z 2), .ref (z 3), .ref (z 4), .ref (z 5), .int (nI kn), .ref (z 6), .ref (z 7), .ref (z 8), .int (nI no), .int (nI s1), .int (nI so), .int (nI s1), .int (nI va), .ref (z 9)])), (z 1, .inl (k.1 0, 160, .inl (ta_e tx)))]) C hP hD hS (c_X8_isLetter l D k (tx s1) (by omega)) [] [0, 1] rfl rfl (by decide) (by decide) (by decide) tw_322 tw_320 tw_5 tw_321 ⟨by decide, by decide, rfl⟩ ⟨Nat.le_of_ble_eq_true rfl, Nat.le_of_ble_eq_true rfl⟩ ⟨Nat.zero_le _, Nat.zero_le _⟩ hl.1 rfl (Nat.le_of_ble_eq_true rfl) dX8_token_53 (fun r6 u7 H locs h8 hP hD hS => ?_)
      rcases h8 with h0 | h0
      · obtain ⟨hv9, rfl⟩ := h0
        have hP : va_P D vwCl [(z 0, .inr (8, [.ref (z 1), .int (nI L), .ref (z 2), .ref (z 3), .ref (z 4), .ref (z 5), .int (nI kn), .ref (z 6), .ref (z 7), .ref (z 8), .int (nI no), .int (nI s1), .int (nI so), .int (nI s1), .int (nI va), .ref (z 9)])), (z 1, .inl (k.1 0, 160, .inl (ta_e tx)))] H := hP
        have hD : va_D A [(z 0, .inr (8, [.ref (z 1), .int (nI L), .ref (z 2), .ref (z 3), .ref (z 4), .ref (z 5), .int (nI kn), .ref (z 6), .ref (z 7), .ref (z 8), .int (nI no), .int (nI s1), .int (nI so), .int (nI s1), .int (nI va), .ref (z 9)])), (z 1, .inl (k.1 0, 160, .inl (ta_e tx)))] := hD
        refine lv_if_eq (tgt := 63) hx hb dX8_token_56 (by decide) (fun c10 => ?_) (fun c10 => ?_)
        · exact absurd c10 (by decide)
        · refine ta_iconst C 1 dX8_token_59 (by decide) ?_
          refine lv_goto (tgt := 75) hx hb dX8_token_60 (by decide) ?_
          have hsx : tx_s tx L s1 = 1 := by
            have hnb : tx_s tx L s1 ≠ 0 := by rw [hs2]; exact tk_st_nb _ _ rfl
            revert hnb
            unfold tx_s
            rw [if_pos (by omega)]
            (repeat' split) <;> omega
          have hms : mo_s tx L at_ = 1 := by unfold mo_s tn_s; rw [← hs2, if_pos (by omega)]; exact hsx
          have hte : tn_e tx L at_ = tk_rn tx L 1 s1 := by unfold tn_e tk_en; rw [← hs2, if_pos (by omega), if_pos (by omega), hsx]; exact (tk_rn_y (by decide) hsx).symm
          refine ta_put C hP hD hS 0 inlX8 tyX8 tyX8_ok nmX8 rfl rfl 12 (by decide) tw_310 rfl rfl rfl (Nat.le_of_ble_eq_true rfl) dX8_token_75 (fun H locs hP hD hS => ?_)
          have hP : va_P D vwCl [(z 0, .inr (8, [.ref (z 1), .int (nI L), .ref (z 2), .ref (z 3), .ref (z 4), .ref (z 5), .int (nI kn), .ref (z 6), .ref (z 7), .ref (z 8), .int (nI no), .int (nI s1), .int (nI 1), .int (nI s1), .int (nI va), .ref (z 9)])), (z 1, .inl (k.1 0, 160, .inl (ta_e tx)))] H := hP
          have hD : va_D A [(z 0, .inr (8, [.ref (z 1), .int (nI L), .ref (z 2), .ref (z 3), .ref (z 4), .ref (z 5), .int (nI kn), .ref (z 6), .ref (z 7), .ref (z 8), .int (nI no), .int (nI s1), .int (nI 1), .int (nI s1), .int (nI va), .ref (z 9)])), (z 1, .inl (k.1 0, 160, .inl (ta_e tx)))] := hD
          refine lv_aload_n hx hb dX8_token_78 rfl (lv_at hl 1 rfl) ?_
          refine ta_iconst C 0 dX8_token_79 (by decide) ?_
          refine ta_put C hP hD hS 0 inlX8 tyX8 tyX8_ok nmX8 rfl rfl 14 (by decide) tw_315 rfl rfl rfl (Nat.le_of_ble_eq_true rfl) dX8_token_80 (fun H locs hP hD hS => ?_)
          have hP : va_P D vwCl [(z 0, .inr (8, [.ref (z 1), .int (nI L), .ref (z 2), .ref (z 3), .ref (z 4), .ref (z 5), .int (nI kn), .ref (z 6), .ref (z 7), .ref (z 8), .int (nI no), .int (nI s1), .int (nI 1), .int (nI s1), .int (nI 0), .ref (z 9)])), (z 1, .inl (k.1 0, 160, .inl (ta_e tx)))] H := hP
          have hD : va_D A [(z 0, .inr (8, [.ref (z 1), .int (nI L), .ref (z 2), .ref (z 3), .ref (z 4), .ref (z 5), .int (nI kn), .ref (z 6), .ref (z 7), .ref (z 8), .int (nI no), .int (nI s1), .int (nI 1), .int (nI s1), .int (nI 0), .ref (z 9)])), (z 1, .inl (k.1 0, 160, .inl (ta_e tx)))] := hD
          have loop_83 : ∀ (N_83 : Nat) (e1 : Nat), (e1 ≤ L) → (tk_rn tx L 1 e1 = tk_rn tx L 1 s1) → L - e1 < N_83 → ∀ (H : Heap) (locs : List Loc) (ls : Array Slot), va_P D vwCl [(z 0, .inr (8, [.ref (z 1), .int (nI L), .ref (z 2), .ref (z 3), .ref (z 4), .ref (z 5), .int (nI kn), .ref (z 6), .ref (z 7), .ref (z 8), .int (nI no), .int (nI e1), .int (nI 1), .int (nI s1), .int (nI 0), .ref (z 9)])), (z 1, .inl (k.1 0, 160, .inl (ta_e tx)))] H → va_D A [(z 0, .inr (8, [.ref (z 1), .int (nI L), .ref (z 2), .ref (z 3), .ref (z 4), .ref (z 5), .int (nI kn), .ref (z 6), .ref (z 7), .ref (z 8), .int (nI no), .int (nI e1), .int (nI 1), .int (nI s1), .int (nI 0), .ref (z 9)])), (z 1, .inl (k.1 0, 160, .inl (ta_e tx)))] → va_S A s.heap H locs → lv_has ls 2 [(0, .ref (z 0))] → W p l e ({ frames := 2, cells := 0, slots := 0, locals := 60 }) s m ([.ref (z 0)] : List Value).toArray below meth c H locs 0 0 Q (F0 m 83 ls []) := by
            clear hP hD hS hl
            intro N_83
            induction N_83 with
            | zero =>
              intro e1 h3 h4 hf_83
              exact absurd hf_83 (Nat.not_lt_zero _)
            | succ N_83 ih_83 =>
              intro e1 h3 h4 hf_83 H locs ls hP hD hS hl
              refine lv_aload_n hx hb dX8_token_83 rfl (lv_at hl 0 rfl) ?_
              refine ta_get C hP 0 inlX8 rfl rfl 12 (by decide) tw_310 rfl dX8_token_84 ?_
              refine ta_iconst C 1 dX8_token_87 (by decide) ?_
              refine lv_icmp_ne (tgt := 118) hx hb dX8_token_88 (by decide) (fun c11 => ?_) (fun c11 => ?_)
              · exact absurd c11 (by decide)
              · refine lv_aload_n hx hb dX8_token_91 rfl (lv_at hl 0 rfl) ?_
                refine lv_aload_n hx hb dX8_token_92 rfl (lv_at hl 0 rfl) ?_
                refine ta_get C hP 0 inlX8 rfl rfl 11 (by decide) tw_309 rfl dX8_token_93 ?_
                refine ta_callVi (As := [.int (nI e1)]) (rest0 := []) (Wr := []) C hP hD hS (c_X8_letterAt l D k z kn no e1 1 s1 0 L tx e1 (by omega) (by omega)) 0 rfl rfl rfl [0, 1] [] rfl rfl (by decide) (by decide) (by decide) tw_319 tw_316 tw_5 tw_317 tw_318 ⟨by decide, by decide, rfl⟩ ⟨Nat.le_of_ble_eq_true rfl, Nat.le_of_ble_eq_true rfl⟩ ⟨Nat.zero_le _, Nat.zero_le _⟩ hl.1 rfl (Nat.le_of_ble_eq_true rfl) dX8_token_96 (fun r12 u13 H locs h14 hP hD hS => ?_)
                rcases h14 with h0 | h0
                · obtain ⟨hlt15, rfl⟩ := h0
                  have hP : va_P D vwCl [(z 0, .inr (8, [.ref (z 1), .int (nI L), .ref (z 2), .ref (z 3), .ref (z 4), .ref (z 5), .int (nI kn), .ref (z 6), .ref (z 7), .ref (z 8), .int (nI no), .int (nI e1), .int (nI 1), .int (nI s1), .int (nI 0), .ref (z 9)])), (z 1, .inl (k.1 0, 160, .inl (ta_e tx)))] H := hP
                  have hD : va_D A [(z 0, .inr (8, [.ref (z 1), .int (nI L), .ref (z 2), .ref (z 3), .ref (z 4), .ref (z 5), .int (nI kn), .ref (z 6), .ref (z 7), .ref (z 8), .int (nI no), .int (nI e1), .int (nI 1), .int (nI s1), .int (nI 0), .ref (z 9)])), (z 1, .inl (k.1 0, 160, .inl (ta_e tx)))] := hD
                  have hce := hc e1 (by omega)
                  refine ta_callSi (As := [.int (nI (tx e1))]) (rest0 := []) (Wr := [(z 0, .inr (8, [.ref (z 1), .int (nI L), .ref (z 2), .ref (z 3), .ref (z 4), .ref (z 5), .int (nI kn), .ref (z 6), .ref (z 7), .ref (z 8), .int (nI no), .int (nI e1), .int (nI 1), .int (nI s1), .int (nI 0), .ref (z 9)])), (z 1, .inl (k.1 0, 160, .inl (ta_e tx)))]) C hP hD hS (c_X8_isLetter l D k (tx e1) (by omega)) [] [0, 1] rfl rfl (by decide) (by decide) (by decide) tw_322 tw_320 tw_5 tw_321 ⟨by decide, by decide, rfl⟩ ⟨Nat.le_of_ble_eq_true rfl, Nat.le_of_ble_eq_true rfl⟩ ⟨Nat.zero_le _, Nat.zero_le _⟩ hl.1 rfl (Nat.le_of_ble_eq_true rfl) dX8_token_99 (fun r16 u17 H locs h18 hP hD hS => ?_)
                  rcases h18 with h0 | h0
                  · obtain ⟨hv19, rfl⟩ := h0
                    have hP : va_P D vwCl [(z 0, .inr (8, [.ref (z 1), .int (nI L), .ref (z 2), .ref (z 3), .ref (z 4), .ref (z 5), .int (nI kn), .ref (z 6), .ref (z 7), .ref (z 8), .int (nI no), .int (nI e1), .int (nI 1), .int (nI s1), .int (nI 0), .ref (z 9)])), (z 1, .inl (k.1 0, 160, .inl (ta_e tx)))] H := hP
                    have hD : va_D A [(z 0, .inr (8, [.ref (z 1), .int (nI L), .ref (z 2), .ref (z 3), .ref (z 4), .ref (z 5), .int (nI kn), .ref (z 6), .ref (z 7), .ref (z 8), .int (nI no), .int (nI e1), .int (nI 1), .int (nI s1), .int (nI 0), .ref (z 9)])), (z 1, .inl (k.1 0, 160, .inl (ta_e tx)))] := hD
                    refine lv_if_eq (tgt := 118) hx hb dX8_token_102 (by decide) (fun c20 => ?_) (fun c20 => ?_)
                    · exact absurd c20 (by decide)
                    · refine lv_aload_n hx hb dX8_token_105 rfl (lv_at hl 0 rfl) ?_
                      refine lv_dup hx hb dX8_token_106 rfl ?_
                      refine ta_get C hP 0 inlX8 rfl rfl 11 (by decide) tw_309 rfl dX8_token_107 ?_
                      refine ta_iconst C 1 dX8_token_110 (by decide) ?_
                      refine ta_iadd C (a := e1) (b := 1) dX8_token_111 ?_
                      refine ta_put C hP hD hS 0 inlX8 tyX8 tyX8_ok nmX8 rfl rfl 11 (by decide) tw_309 rfl rfl rfl (Nat.le_of_ble_eq_true rfl) dX8_token_112 (fun H locs hP hD hS => ?_)
                      have hP : va_P D vwCl [(z 0, .inr (8, [.ref (z 1), .int (nI L), .ref (z 2), .ref (z 3), .ref (z 4), .ref (z 5), .int (nI kn), .ref (z 6), .ref (z 7), .ref (z 8), .int (nI no), .int (nI (e1 + 1)), .int (nI 1), .int (nI s1), .int (nI 0), .ref (z 9)])), (z 1, .inl (k.1 0, 160, .inl (ta_e tx)))] H := hP
                      have hD : va_D A [(z 0, .inr (8, [.ref (z 1), .int (nI L), .ref (z 2), .ref (z 3), .ref (z 4), .ref (z 5), .int (nI kn), .ref (z 6), .ref (z 7), .ref (z 8), .int (nI no), .int (nI (e1 + 1)), .int (nI 1), .int (nI s1), .int (nI 0), .ref (z 9)])), (z 1, .inl (k.1 0, 160, .inl (ta_e tx)))] := hD
                      refine lv_goto (tgt := 83) hx hb dX8_token_115 (by decide) ?_
                      exact ih_83 (e1 + 1) (by omega) (by rw [← h4]; exact (tk_rn_y (by decide) (by unfold tx_s; rw [if_pos (by omega), if_pos (by omega)])).symm) (by omega) _ _ _ hP hD hS (lv_sub hl [0] rfl)
                  · obtain ⟨hv21, rfl⟩ := h0
                    have hP : va_P D vwCl [(z 0, .inr (8, [.ref (z 1), .int (nI L), .ref (z 2), .ref (z 3), .ref (z 4), .ref (z 5), .int (nI kn), .ref (z 6), .ref (z 7), .ref (z 8), .int (nI no), .int (nI e1), .int (nI 1), .int (nI s1), .int (nI 0), .ref (z 9)])), (z 1, .inl (k.1 0, 160, .inl (ta_e tx)))] H := hP
                    have hD : va_D A [(z 0, .inr (8, [.ref (z 1), .int (nI L), .ref (z 2), .ref (z 3), .ref (z 4), .ref (z 5), .int (nI kn), .ref (z 6), .ref (z 7), .ref (z 8), .int (nI no), .int (nI e1), .int (nI 1), .int (nI s1), .int (nI 0), .ref (z 9)])), (z 1, .inl (k.1 0, 160, .inl (ta_e tx)))] := hD
                    refine lv_if_eq (tgt := 118) hx hb dX8_token_102 (by decide) (fun c22 => ?_) (fun c22 => ?_)
                    · refine lv_aload_n hx hb dX8_token_118 rfl (lv_at hl 0 rfl) ?_
                      refine ta_get C hP 0 inlX8 rfl rfl 12 (by decide) tw_310 rfl dX8_token_119 ?_
                      refine ta_iconst C 2 dX8_token_122 (by decide) ?_
                      refine lv_icmp_ne (tgt := 195) hx hb dX8_token_123 (by decide) (fun c23 => ?_) (fun c23 => ?_)
                      · refine lv_aload_n hx hb dX8_token_195 rfl (lv_at hl 0 rfl) ?_
                        refine lv_dup hx hb dX8_token_196 rfl ?_
                        refine ta_get C hP 0 inlX8 rfl rfl 11 (by decide) tw_309 rfl dX8_token_197 ?_
                        refine lv_aload_n hx hb dX8_token_200 rfl (lv_at hl 0 rfl) ?_
                        refine ta_get C hP 0 inlX8 rfl rfl 12 (by decide) tw_310 rfl dX8_token_201 ?_
                        refine ta_iconst C 3 dX8_token_204 (by decide) ?_
                        refine lv_icmp_ne (tgt := 212) hx hb dX8_token_205 (by decide) (fun c24 => ?_) (fun c24 => ?_)
                        · refine ta_iconst C 0 dX8_token_212 (by decide) ?_
                          refine ta_iadd C (a := e1) (b := 0) dX8_token_213 ?_
                          refine ta_put C hP hD hS 0 inlX8 tyX8 tyX8_ok nmX8 rfl rfl 11 (by decide) tw_309 rfl rfl rfl (Nat.le_of_ble_eq_true rfl) dX8_token_214 (fun H locs hP hD hS => ?_)
                          have hP : va_P D vwCl [(z 0, .inr (8, [.ref (z 1), .int (nI L), .ref (z 2), .ref (z 3), .ref (z 4), .ref (z 5), .int (nI kn), .ref (z 6), .ref (z 7), .ref (z 8), .int (nI no), .int (nI (e1 + 0)), .int (nI 1), .int (nI s1), .int (nI 0), .ref (z 9)])), (z 1, .inl (k.1 0, 160, .inl (ta_e tx)))] H := hP
                          have hD : va_D A [(z 0, .inr (8, [.ref (z 1), .int (nI L), .ref (z 2), .ref (z 3), .ref (z 4), .ref (z 5), .int (nI kn), .ref (z 6), .ref (z 7), .ref (z 8), .int (nI no), .int (nI (e1 + 0)), .int (nI 1), .int (nI s1), .int (nI 0), .ref (z 9)])), (z 1, .inl (k.1 0, 160, .inl (ta_e tx)))] := hD
                          have hne : tx_s tx L e1 ≠ 1 := by
                            unfold tx_s; rw [if_pos (by omega)]; (repeat' split) <;> omega
                          have eat : tn_e tx L at_ = e1 + 0 := by rw [hte, ← h4]; exact tk_rn_n hne
                          have ew : mo_w tx L at_ = 0 := by unfold mo_w; rw [hms]; rfl
                          have esr : tn_s tx L at_ = s1 := hs2.symm
                          have hP : va_P D vwCl [(z 0, .inr (8, [.ref (z 1), .int (nI L), .ref (z 2), .ref (z 3), .ref (z 4), .ref (z 5), .int (nI kn), .ref (z 6), .ref (z 7), .ref (z 8), .int (nI no), .int (nI (tn_e tx L at_)), .int (nI (mo_s tx L at_)), .int (nI (tn_s tx L at_)), .int (nI (mo_w tx L at_)), .ref (z 9)])), (z 1, .inl (k.1 0, 160, .inl (ta_e tx)))] H := by rw [eat, hms, esr, ew]; exact hP
                          have hD : va_D A [(z 0, .inr (8, [.ref (z 1), .int (nI L), .ref (z 2), .ref (z 3), .ref (z 4), .ref (z 5), .int (nI kn), .ref (z 6), .ref (z 7), .ref (z 8), .int (nI no), .int (nI (tn_e tx L at_)), .int (nI (mo_s tx L at_)), .int (nI (tn_s tx L at_)), .int (nI (mo_w tx L at_)), .ref (z 9)])), (z 1, .inl (k.1 0, 160, .inl (ta_e tx)))] := ta_De hD rfl
                          exact ret () dX8_token_217 trivial hP hD hS
                        · exact absurd c24 (by decide)
                      · exact absurd c23 (by decide)
                    · exact absurd c22 (by decide)
                · obtain ⟨hge25, rfl⟩ := h0
                  have hP : va_P D vwCl [(z 0, .inr (8, [.ref (z 1), .int (nI L), .ref (z 2), .ref (z 3), .ref (z 4), .ref (z 5), .int (nI kn), .ref (z 6), .ref (z 7), .ref (z 8), .int (nI no), .int (nI e1), .int (nI 1), .int (nI s1), .int (nI 0), .ref (z 9)])), (z 1, .inl (k.1 0, 160, .inl (ta_e tx)))] H := hP
                  have hD : va_D A [(z 0, .inr (8, [.ref (z 1), .int (nI L), .ref (z 2), .ref (z 3), .ref (z 4), .ref (z 5), .int (nI kn), .ref (z 6), .ref (z 7), .ref (z 8), .int (nI no), .int (nI e1), .int (nI 1), .int (nI s1), .int (nI 0), .ref (z 9)])), (z 1, .inl (k.1 0, 160, .inl (ta_e tx)))] := hD
                  refine ta_callSi (As := [.int (nI 4294967295)]) (rest0 := []) (Wr := [(z 0, .inr (8, [.ref (z 1), .int (nI L), .ref (z 2), .ref (z 3), .ref (z 4), .ref (z 5), .int (nI kn), .ref (z 6), .ref (z 7), .ref (z 8), .int (nI no), .int (nI e1), .int (nI 1), .int (nI s1), .int (nI 0), .ref (z 9)])), (z 1, .inl (k.1 0, 160, .inl (ta_e tx)))]) C hP hD hS (c_X8_isLetter l D k 4294967295 (by omega)) [] [0, 1] rfl rfl (by decide) (by decide) (by decide) tw_322 tw_320 tw_5 tw_321 ⟨by decide, by decide, rfl⟩ ⟨Nat.le_of_ble_eq_true rfl, Nat.le_of_ble_eq_true rfl⟩ ⟨Nat.zero_le _, Nat.zero_le _⟩ hl.1 rfl (Nat.le_of_ble_eq_true rfl) dX8_token_99 (fun r26 u27 H locs h28 hP hD hS => ?_)
                  rcases h28 with h0 | h0
                  · obtain ⟨hv29, rfl⟩ := h0
                    have hP : va_P D vwCl [(z 0, .inr (8, [.ref (z 1), .int (nI L), .ref (z 2), .ref (z 3), .ref (z 4), .ref (z 5), .int (nI kn), .ref (z 6), .ref (z 7), .ref (z 8), .int (nI no), .int (nI e1), .int (nI 1), .int (nI s1), .int (nI 0), .ref (z 9)])), (z 1, .inl (k.1 0, 160, .inl (ta_e tx)))] H := hP
                    have hD : va_D A [(z 0, .inr (8, [.ref (z 1), .int (nI L), .ref (z 2), .ref (z 3), .ref (z 4), .ref (z 5), .int (nI kn), .ref (z 6), .ref (z 7), .ref (z 8), .int (nI no), .int (nI e1), .int (nI 1), .int (nI s1), .int (nI 0), .ref (z 9)])), (z 1, .inl (k.1 0, 160, .inl (ta_e tx)))] := hD
                    exfalso; have h9 := hv29; omega
                  · obtain ⟨hv30, rfl⟩ := h0
                    have hP : va_P D vwCl [(z 0, .inr (8, [.ref (z 1), .int (nI L), .ref (z 2), .ref (z 3), .ref (z 4), .ref (z 5), .int (nI kn), .ref (z 6), .ref (z 7), .ref (z 8), .int (nI no), .int (nI e1), .int (nI 1), .int (nI s1), .int (nI 0), .ref (z 9)])), (z 1, .inl (k.1 0, 160, .inl (ta_e tx)))] H := hP
                    have hD : va_D A [(z 0, .inr (8, [.ref (z 1), .int (nI L), .ref (z 2), .ref (z 3), .ref (z 4), .ref (z 5), .int (nI kn), .ref (z 6), .ref (z 7), .ref (z 8), .int (nI no), .int (nI e1), .int (nI 1), .int (nI s1), .int (nI 0), .ref (z 9)])), (z 1, .inl (k.1 0, 160, .inl (ta_e tx)))] := hD
                    refine lv_if_eq (tgt := 118) hx hb dX8_token_102 (by decide) (fun c31 => ?_) (fun c31 => ?_)
                    · refine lv_aload_n hx hb dX8_token_118 rfl (lv_at hl 0 rfl) ?_
                      refine ta_get C hP 0 inlX8 rfl rfl 12 (by decide) tw_310 rfl dX8_token_119 ?_
                      refine ta_iconst C 2 dX8_token_122 (by decide) ?_
                      refine lv_icmp_ne (tgt := 195) hx hb dX8_token_123 (by decide) (fun c32 => ?_) (fun c32 => ?_)
                      · refine lv_aload_n hx hb dX8_token_195 rfl (lv_at hl 0 rfl) ?_
                        refine lv_dup hx hb dX8_token_196 rfl ?_
                        refine ta_get C hP 0 inlX8 rfl rfl 11 (by decide) tw_309 rfl dX8_token_197 ?_
                        refine lv_aload_n hx hb dX8_token_200 rfl (lv_at hl 0 rfl) ?_
                        refine ta_get C hP 0 inlX8 rfl rfl 12 (by decide) tw_310 rfl dX8_token_201 ?_
                        refine ta_iconst C 3 dX8_token_204 (by decide) ?_
                        refine lv_icmp_ne (tgt := 212) hx hb dX8_token_205 (by decide) (fun c33 => ?_) (fun c33 => ?_)
                        · refine ta_iconst C 0 dX8_token_212 (by decide) ?_
                          refine ta_iadd C (a := e1) (b := 0) dX8_token_213 ?_
                          refine ta_put C hP hD hS 0 inlX8 tyX8 tyX8_ok nmX8 rfl rfl 11 (by decide) tw_309 rfl rfl rfl (Nat.le_of_ble_eq_true rfl) dX8_token_214 (fun H locs hP hD hS => ?_)
                          have hP : va_P D vwCl [(z 0, .inr (8, [.ref (z 1), .int (nI L), .ref (z 2), .ref (z 3), .ref (z 4), .ref (z 5), .int (nI kn), .ref (z 6), .ref (z 7), .ref (z 8), .int (nI no), .int (nI (e1 + 0)), .int (nI 1), .int (nI s1), .int (nI 0), .ref (z 9)])), (z 1, .inl (k.1 0, 160, .inl (ta_e tx)))] H := hP
                          have hD : va_D A [(z 0, .inr (8, [.ref (z 1), .int (nI L), .ref (z 2), .ref (z 3), .ref (z 4), .ref (z 5), .int (nI kn), .ref (z 6), .ref (z 7), .ref (z 8), .int (nI no), .int (nI (e1 + 0)), .int (nI 1), .int (nI s1), .int (nI 0), .ref (z 9)])), (z 1, .inl (k.1 0, 160, .inl (ta_e tx)))] := hD
                          have hne : tx_s tx L e1 ≠ 1 := by
                            rw [show tx_s tx L e1 = 3 from if_neg (by omega)]; decide
                          have eat : tn_e tx L at_ = e1 + 0 := by rw [hte, ← h4]; exact tk_rn_n hne
                          have ew : mo_w tx L at_ = 0 := by unfold mo_w; rw [hms]; rfl
                          have esr : tn_s tx L at_ = s1 := hs2.symm
                          have hP : va_P D vwCl [(z 0, .inr (8, [.ref (z 1), .int (nI L), .ref (z 2), .ref (z 3), .ref (z 4), .ref (z 5), .int (nI kn), .ref (z 6), .ref (z 7), .ref (z 8), .int (nI no), .int (nI (tn_e tx L at_)), .int (nI (mo_s tx L at_)), .int (nI (tn_s tx L at_)), .int (nI (mo_w tx L at_)), .ref (z 9)])), (z 1, .inl (k.1 0, 160, .inl (ta_e tx)))] H := by rw [eat, hms, esr, ew]; exact hP
                          have hD : va_D A [(z 0, .inr (8, [.ref (z 1), .int (nI L), .ref (z 2), .ref (z 3), .ref (z 4), .ref (z 5), .int (nI kn), .ref (z 6), .ref (z 7), .ref (z 8), .int (nI no), .int (nI (tn_e tx L at_)), .int (nI (mo_s tx L at_)), .int (nI (tn_s tx L at_)), .int (nI (mo_w tx L at_)), .ref (z 9)])), (z 1, .inl (k.1 0, 160, .inl (ta_e tx)))] := ta_De hD rfl
                          exact ret () dX8_token_217 trivial hP hD hS
                        · exact absurd c33 (by decide)
                      · exact absurd c32 (by decide)
                    · exact absurd c31 (by decide)
          exact loop_83 ((L - s1) + 1) s1 (by omega) rfl (Nat.lt_succ_self _) _ _ _ hP hD hS (lv_sub hl [1] rfl)
      · obtain ⟨hv34, rfl⟩ := h0
        have hP : va_P D vwCl [(z 0, .inr (8, [.ref (z 1), .int (nI L), .ref (z 2), .ref (z 3), .ref (z 4), .ref (z 5), .int (nI kn), .ref (z 6), .ref (z 7), .ref (z 8), .int (nI no), .int (nI s1), .int (nI so), .int (nI s1), .int (nI va), .ref (z 9)])), (z 1, .inl (k.1 0, 160, .inl (ta_e tx)))] H := hP
        have hD : va_D A [(z 0, .inr (8, [.ref (z 1), .int (nI L), .ref (z 2), .ref (z 3), .ref (z 4), .ref (z 5), .int (nI kn), .ref (z 6), .ref (z 7), .ref (z 8), .int (nI no), .int (nI s1), .int (nI so), .int (nI s1), .int (nI va), .ref (z 9)])), (z 1, .inl (k.1 0, 160, .inl (ta_e tx)))] := hD
        refine lv_if_eq (tgt := 63) hx hb dX8_token_56 (by decide) (fun c35 => ?_) (fun c35 => ?_)
        · refine lv_iload_n hx hb dX8_token_63 rfl (lv_at hl 0 rfl) ?_
          refine ta_callSi (As := [.int (nI (tx s1))]) (rest0 := [.ref (z 0)]) (Wr := [(z 0, .inr (8, [.ref (z 1), .int (nI L), .ref (z 2), .ref (z 3), .ref (z 4), .ref (z 5), .int (nI kn), .ref (z 6), .ref (z 7), .ref (z 8), .int (nI no), .int (nI s1), .int (nI so), .int (nI s1), .int (nI va), .ref (z 9)])), (z 1, .inl (k.1 0, 160, .inl (ta_e tx)))]) C hP hD hS (c_X8_isDigit l D k (tx s1) (by omega)) [] [0, 1] rfl rfl (by decide) (by decide) (by decide) tw_325 tw_323 tw_5 tw_324 ⟨by decide, by decide, rfl⟩ ⟨Nat.le_of_ble_eq_true rfl, Nat.le_of_ble_eq_true rfl⟩ ⟨Nat.zero_le _, Nat.zero_le _⟩ hl.1 rfl (Nat.le_of_ble_eq_true rfl) dX8_token_64 (fun r36 u37 H locs h38 hP hD hS => ?_)
          rcases h38 with h0 | h0
          · obtain ⟨hv39, rfl⟩ := h0
            have hP : va_P D vwCl [(z 0, .inr (8, [.ref (z 1), .int (nI L), .ref (z 2), .ref (z 3), .ref (z 4), .ref (z 5), .int (nI kn), .ref (z 6), .ref (z 7), .ref (z 8), .int (nI no), .int (nI s1), .int (nI so), .int (nI s1), .int (nI va), .ref (z 9)])), (z 1, .inl (k.1 0, 160, .inl (ta_e tx)))] H := hP
            have hD : va_D A [(z 0, .inr (8, [.ref (z 1), .int (nI L), .ref (z 2), .ref (z 3), .ref (z 4), .ref (z 5), .int (nI kn), .ref (z 6), .ref (z 7), .ref (z 8), .int (nI no), .int (nI s1), .int (nI so), .int (nI s1), .int (nI va), .ref (z 9)])), (z 1, .inl (k.1 0, 160, .inl (ta_e tx)))] := hD
            refine lv_if_eq (tgt := 74) hx hb dX8_token_67 (by decide) (fun c40 => ?_) (fun c40 => ?_)
            · exact absurd c40 (by decide)
            · refine ta_iconst C 2 dX8_token_70 (by decide) ?_
              refine lv_goto (tgt := 75) hx hb dX8_token_71 (by decide) ?_
              have hsx : tx_s tx L s1 = 2 := by
                have hnb : tx_s tx L s1 ≠ 0 := by rw [hs2]; exact tk_st_nb _ _ rfl
                revert hnb
                unfold tx_s
                rw [if_pos (by omega)]
                (repeat' split) <;> omega
              have hms : mo_s tx L at_ = 2 := by unfold mo_s tn_s; rw [← hs2, if_pos (by omega)]; exact hsx
              have hte : tn_e tx L at_ = tk_rn tx L 2 s1 := by unfold tn_e tk_en; rw [← hs2, if_pos (by omega), if_pos (by omega), hsx]; exact (tk_rn_y (by decide) hsx).symm
              refine ta_put C hP hD hS 0 inlX8 tyX8 tyX8_ok nmX8 rfl rfl 12 (by decide) tw_310 rfl rfl rfl (Nat.le_of_ble_eq_true rfl) dX8_token_75 (fun H locs hP hD hS => ?_)
              have hP : va_P D vwCl [(z 0, .inr (8, [.ref (z 1), .int (nI L), .ref (z 2), .ref (z 3), .ref (z 4), .ref (z 5), .int (nI kn), .ref (z 6), .ref (z 7), .ref (z 8), .int (nI no), .int (nI s1), .int (nI 2), .int (nI s1), .int (nI va), .ref (z 9)])), (z 1, .inl (k.1 0, 160, .inl (ta_e tx)))] H := hP
              have hD : va_D A [(z 0, .inr (8, [.ref (z 1), .int (nI L), .ref (z 2), .ref (z 3), .ref (z 4), .ref (z 5), .int (nI kn), .ref (z 6), .ref (z 7), .ref (z 8), .int (nI no), .int (nI s1), .int (nI 2), .int (nI s1), .int (nI va), .ref (z 9)])), (z 1, .inl (k.1 0, 160, .inl (ta_e tx)))] := hD
              refine lv_aload_n hx hb dX8_token_78 rfl (lv_at hl 1 rfl) ?_
              refine ta_iconst C 0 dX8_token_79 (by decide) ?_
              refine ta_put C hP hD hS 0 inlX8 tyX8 tyX8_ok nmX8 rfl rfl 14 (by decide) tw_315 rfl rfl rfl (Nat.le_of_ble_eq_true rfl) dX8_token_80 (fun H locs hP hD hS => ?_)
              have hP : va_P D vwCl [(z 0, .inr (8, [.ref (z 1), .int (nI L), .ref (z 2), .ref (z 3), .ref (z 4), .ref (z 5), .int (nI kn), .ref (z 6), .ref (z 7), .ref (z 8), .int (nI no), .int (nI s1), .int (nI 2), .int (nI s1), .int (nI 0), .ref (z 9)])), (z 1, .inl (k.1 0, 160, .inl (ta_e tx)))] H := hP
              have hD : va_D A [(z 0, .inr (8, [.ref (z 1), .int (nI L), .ref (z 2), .ref (z 3), .ref (z 4), .ref (z 5), .int (nI kn), .ref (z 6), .ref (z 7), .ref (z 8), .int (nI no), .int (nI s1), .int (nI 2), .int (nI s1), .int (nI 0), .ref (z 9)])), (z 1, .inl (k.1 0, 160, .inl (ta_e tx)))] := hD
              refine lv_aload_n hx hb dX8_token_83 rfl (lv_at hl 1 rfl) ?_
              refine ta_get C hP 0 inlX8 rfl rfl 12 (by decide) tw_310 rfl dX8_token_84 ?_
              refine ta_iconst C 1 dX8_token_87 (by decide) ?_
              refine lv_icmp_ne (tgt := 118) hx hb dX8_token_88 (by decide) (fun c41 => ?_) (fun c41 => ?_)
              · have loop_118 : ∀ (N_118 : Nat) (e1 : Nat) (v1 : Nat), (e1 ≤ L) → (s1 ≤ e1) → (tk_rn tx L 2 e1 = tk_rn tx L 2 s1) → (v1 = mo_v tx s1 e1) → (∀ j, s1 ≤ j → j < e1 → 48 ≤ tx j ∧ tx j ≤ 57) → L - e1 < N_118 → ∀ (H : Heap) (locs : List Loc) (ls : Array Slot), va_P D vwCl [(z 0, .inr (8, [.ref (z 1), .int (nI L), .ref (z 2), .ref (z 3), .ref (z 4), .ref (z 5), .int (nI kn), .ref (z 6), .ref (z 7), .ref (z 8), .int (nI no), .int (nI e1), .int (nI 2), .int (nI s1), .int (nI v1), .ref (z 9)])), (z 1, .inl (k.1 0, 160, .inl (ta_e tx)))] H → va_D A [(z 0, .inr (8, [.ref (z 1), .int (nI L), .ref (z 2), .ref (z 3), .ref (z 4), .ref (z 5), .int (nI kn), .ref (z 6), .ref (z 7), .ref (z 8), .int (nI no), .int (nI e1), .int (nI 2), .int (nI s1), .int (nI v1), .ref (z 9)])), (z 1, .inl (k.1 0, 160, .inl (ta_e tx)))] → va_S A s.heap H locs → lv_has ls 2 [(0, .ref (z 0))] → W p l e ({ frames := 2, cells := 0, slots := 0, locals := 60 }) s m ([.ref (z 0)] : List Value).toArray below meth c H locs 0 0 Q (F0 m 118 ls []) := by
                  clear hP hD hS hl
                  intro N_118
                  induction N_118 with
                  | zero =>
                    intro e1 v1 h3 h7 h4 h5 h6 hf_118
                    exact absurd hf_118 (Nat.not_lt_zero _)
                  | succ N_118 ih_118 =>
                    intro e1 v1 h3 h7 h4 h5 h6 hf_118 H locs ls hP hD hS hl
                    refine lv_aload_n hx hb dX8_token_118 rfl (lv_at hl 0 rfl) ?_
                    refine ta_get C hP 0 inlX8 rfl rfl 12 (by decide) tw_310 rfl dX8_token_119 ?_
                    refine ta_iconst C 2 dX8_token_122 (by decide) ?_
                    refine lv_icmp_ne (tgt := 195) hx hb dX8_token_123 (by decide) (fun c42 => ?_) (fun c42 => ?_)
                    · exact absurd c42 (by decide)
                    · refine lv_aload_n hx hb dX8_token_126 rfl (lv_at hl 0 rfl) ?_
                      refine lv_aload_n hx hb dX8_token_127 rfl (lv_at hl 0 rfl) ?_
                      refine ta_get C hP 0 inlX8 rfl rfl 11 (by decide) tw_309 rfl dX8_token_128 ?_
                      refine ta_callVi (As := [.int (nI e1)]) (rest0 := []) (Wr := []) C hP hD hS (c_X8_letterAt l D k z kn no e1 2 s1 v1 L tx e1 (by omega) (by omega)) 0 rfl rfl rfl [0, 1] [] rfl rfl (by decide) (by decide) (by decide) tw_319 tw_316 tw_5 tw_317 tw_318 ⟨by decide, by decide, rfl⟩ ⟨Nat.le_of_ble_eq_true rfl, Nat.le_of_ble_eq_true rfl⟩ ⟨Nat.zero_le _, Nat.zero_le _⟩ hl.1 rfl (Nat.le_of_ble_eq_true rfl) dX8_token_131 (fun r43 u44 H locs h45 hP hD hS => ?_)
                      rcases h45 with h0 | h0
                      · obtain ⟨hlt46, rfl⟩ := h0
                        have hP : va_P D vwCl [(z 0, .inr (8, [.ref (z 1), .int (nI L), .ref (z 2), .ref (z 3), .ref (z 4), .ref (z 5), .int (nI kn), .ref (z 6), .ref (z 7), .ref (z 8), .int (nI no), .int (nI e1), .int (nI 2), .int (nI s1), .int (nI v1), .ref (z 9)])), (z 1, .inl (k.1 0, 160, .inl (ta_e tx)))] H := hP
                        have hD : va_D A [(z 0, .inr (8, [.ref (z 1), .int (nI L), .ref (z 2), .ref (z 3), .ref (z 4), .ref (z 5), .int (nI kn), .ref (z 6), .ref (z 7), .ref (z 8), .int (nI no), .int (nI e1), .int (nI 2), .int (nI s1), .int (nI v1), .ref (z 9)])), (z 1, .inl (k.1 0, 160, .inl (ta_e tx)))] := hD
                        have hce := hc e1 (by omega)
                        refine ta_callSi (As := [.int (nI (tx e1))]) (rest0 := []) (Wr := [(z 0, .inr (8, [.ref (z 1), .int (nI L), .ref (z 2), .ref (z 3), .ref (z 4), .ref (z 5), .int (nI kn), .ref (z 6), .ref (z 7), .ref (z 8), .int (nI no), .int (nI e1), .int (nI 2), .int (nI s1), .int (nI v1), .ref (z 9)])), (z 1, .inl (k.1 0, 160, .inl (ta_e tx)))]) C hP hD hS (c_X8_isDigit l D k (tx e1) (by omega)) [] [0, 1] rfl rfl (by decide) (by decide) (by decide) tw_325 tw_323 tw_5 tw_324 ⟨by decide, by decide, rfl⟩ ⟨Nat.le_of_ble_eq_true rfl, Nat.le_of_ble_eq_true rfl⟩ ⟨Nat.zero_le _, Nat.zero_le _⟩ hl.1 rfl (Nat.le_of_ble_eq_true rfl) dX8_token_134 (fun r47 u48 H locs h49 hP hD hS => ?_)
                        rcases h49 with h0 | h0
                        · obtain ⟨hv50, rfl⟩ := h0
                          have hP : va_P D vwCl [(z 0, .inr (8, [.ref (z 1), .int (nI L), .ref (z 2), .ref (z 3), .ref (z 4), .ref (z 5), .int (nI kn), .ref (z 6), .ref (z 7), .ref (z 8), .int (nI no), .int (nI e1), .int (nI 2), .int (nI s1), .int (nI v1), .ref (z 9)])), (z 1, .inl (k.1 0, 160, .inl (ta_e tx)))] H := hP
                          have hD : va_D A [(z 0, .inr (8, [.ref (z 1), .int (nI L), .ref (z 2), .ref (z 3), .ref (z 4), .ref (z 5), .int (nI kn), .ref (z 6), .ref (z 7), .ref (z 8), .int (nI no), .int (nI e1), .int (nI 2), .int (nI s1), .int (nI v1), .ref (z 9)])), (z 1, .inl (k.1 0, 160, .inl (ta_e tx)))] := hD
                          refine lv_if_eq (tgt := 195) hx hb dX8_token_137 (by decide) (fun c51 => ?_) (fun c51 => ?_)
                          · exact absurd c51 (by decide)
                          · refine lv_aload_n hx hb dX8_token_140 rfl (lv_at hl 0 rfl) ?_
                            refine lv_aload_n hx hb dX8_token_141 rfl (lv_at hl 0 rfl) ?_
                            refine ta_get C hP 0 inlX8 rfl rfl 11 (by decide) tw_309 rfl dX8_token_142 ?_
                            refine lv_aload_n hx hb dX8_token_145 rfl (lv_at hl 0 rfl) ?_
                            refine ta_get C hP 0 inlX8 rfl rfl 13 (by decide) tw_304 rfl dX8_token_146 ?_
                            refine ta_isub C (a := e1) (b := s1) (by omega) dX8_token_149 ?_
                            refine ta_iconst C 2 dX8_token_150 (by decide) ?_
                            refine ta_cge C (a := e1 - s1) (b := 2) (tgt := 177) (by omega) (by omega) dX8_token_151 (by decide) (fun c52 => ?_) (fun c52 => ?_)
                            · refine ta_bipush C 100 dX8_token_177 (by decide) ?_
                              refine ta_put C hP hD hS 0 inlX8 tyX8 tyX8_ok nmX8 rfl rfl 14 (by decide) tw_315 rfl rfl rfl (Nat.le_of_ble_eq_true rfl) dX8_token_179 (fun H locs hP hD hS => ?_)
                              have hP : va_P D vwCl [(z 0, .inr (8, [.ref (z 1), .int (nI L), .ref (z 2), .ref (z 3), .ref (z 4), .ref (z 5), .int (nI kn), .ref (z 6), .ref (z 7), .ref (z 8), .int (nI no), .int (nI e1), .int (nI 2), .int (nI s1), .int (nI 100), .ref (z 9)])), (z 1, .inl (k.1 0, 160, .inl (ta_e tx)))] H := hP
                              have hD : va_D A [(z 0, .inr (8, [.ref (z 1), .int (nI L), .ref (z 2), .ref (z 3), .ref (z 4), .ref (z 5), .int (nI kn), .ref (z 6), .ref (z 7), .ref (z 8), .int (nI no), .int (nI e1), .int (nI 2), .int (nI s1), .int (nI 100), .ref (z 9)])), (z 1, .inl (k.1 0, 160, .inl (ta_e tx)))] := hD
                              refine lv_aload_n hx hb dX8_token_182 rfl (lv_at hl 0 rfl) ?_
                              refine lv_dup hx hb dX8_token_183 rfl ?_
                              refine ta_get C hP 0 inlX8 rfl rfl 11 (by decide) tw_309 rfl dX8_token_184 ?_
                              refine ta_iconst C 1 dX8_token_187 (by decide) ?_
                              refine ta_iadd C (a := e1) (b := 1) dX8_token_188 ?_
                              refine ta_put C hP hD hS 0 inlX8 tyX8 tyX8_ok nmX8 rfl rfl 11 (by decide) tw_309 rfl rfl rfl (Nat.le_of_ble_eq_true rfl) dX8_token_189 (fun H locs hP hD hS => ?_)
                              have hP : va_P D vwCl [(z 0, .inr (8, [.ref (z 1), .int (nI L), .ref (z 2), .ref (z 3), .ref (z 4), .ref (z 5), .int (nI kn), .ref (z 6), .ref (z 7), .ref (z 8), .int (nI no), .int (nI (e1 + 1)), .int (nI 2), .int (nI s1), .int (nI 100), .ref (z 9)])), (z 1, .inl (k.1 0, 160, .inl (ta_e tx)))] H := hP
                              have hD : va_D A [(z 0, .inr (8, [.ref (z 1), .int (nI L), .ref (z 2), .ref (z 3), .ref (z 4), .ref (z 5), .int (nI kn), .ref (z 6), .ref (z 7), .ref (z 8), .int (nI no), .int (nI (e1 + 1)), .int (nI 2), .int (nI s1), .int (nI 100), .ref (z 9)])), (z 1, .inl (k.1 0, 160, .inl (ta_e tx)))] := hD
                              refine lv_goto (tgt := 118) hx hb dX8_token_192 (by decide) ?_
                              have hdg : tx_s tx L e1 = 2 := by unfold tx_s; rw [if_pos (by omega), if_neg (by omega), if_pos (by omega)]
                              have h5n : 100 = mo_v tx s1 (e1 + 1) := by unfold mo_v; rw [if_neg (by omega), if_neg (by omega), if_neg (by omega)]
                              have h6n : ∀ j, s1 ≤ j → j < e1 + 1 → 48 ≤ tx j ∧ tx j ≤ 57 := by
                                intro j h1 h2
                                rcases Nat.lt_or_ge j e1 with h8 | h8
                                · exact h6 j h1 h8
                                · obtain rfl : j = e1 := by omega
                                  omega
                              exact ih_118 (e1 + 1) 100 (by omega) (by omega) (by rw [← h4]; exact (tk_rn_y (by decide) hdg).symm) h5n h6n (by omega) _ _ _ hP hD hS (lv_sub hl [0] rfl)
                            · refine ta_bipush C 10 dX8_token_154 (by decide) ?_
                              refine lv_aload_n hx hb dX8_token_156 rfl (lv_at hl 0 rfl) ?_
                              refine ta_get C hP 0 inlX8 rfl rfl 14 (by decide) tw_315 rfl dX8_token_157 ?_
                              refine ta_imul C (a := 10) (b := v1) dX8_token_160 ?_
                              refine lv_aload_n hx hb dX8_token_161 rfl (lv_at hl 0 rfl) ?_
                              refine ta_get C hP 0 inlX8 rfl rfl 0 (by decide) tw_125 rfl dX8_token_162 ?_
                              refine lv_aload_n hx hb dX8_token_165 rfl (lv_at hl 0 rfl) ?_
                              refine ta_get C hP 0 inlX8 rfl rfl 11 (by decide) tw_309 rfl dX8_token_166 ?_
                              refine ta_iald C hP 1 rfl (i := e1) (by omega) dX8_token_169 ?_
                              refine ta_iadd C (a := 10 * v1) (b := tx e1) dX8_token_170 ?_
                              refine ta_bipush C 48 dX8_token_171 (by decide) ?_
                              refine ta_isub C (a := (10 * v1) + (tx e1)) (b := 48) (by omega) dX8_token_173 ?_
                              refine lv_goto (tgt := 179) hx hb dX8_token_174 (by decide) ?_
                              refine ta_put C hP hD hS 0 inlX8 tyX8 tyX8_ok nmX8 rfl rfl 14 (by decide) tw_315 rfl rfl rfl (Nat.le_of_ble_eq_true rfl) dX8_token_179 (fun H locs hP hD hS => ?_)
                              have hP : va_P D vwCl [(z 0, .inr (8, [.ref (z 1), .int (nI L), .ref (z 2), .ref (z 3), .ref (z 4), .ref (z 5), .int (nI kn), .ref (z 6), .ref (z 7), .ref (z 8), .int (nI no), .int (nI e1), .int (nI 2), .int (nI s1), .int (nI (((10 * v1) + (tx e1)) - 48)), .ref (z 9)])), (z 1, .inl (k.1 0, 160, .inl (ta_e tx)))] H := hP
                              have hD : va_D A [(z 0, .inr (8, [.ref (z 1), .int (nI L), .ref (z 2), .ref (z 3), .ref (z 4), .ref (z 5), .int (nI kn), .ref (z 6), .ref (z 7), .ref (z 8), .int (nI no), .int (nI e1), .int (nI 2), .int (nI s1), .int (nI (((10 * v1) + (tx e1)) - 48)), .ref (z 9)])), (z 1, .inl (k.1 0, 160, .inl (ta_e tx)))] := hD
                              refine lv_aload_n hx hb dX8_token_182 rfl (lv_at hl 0 rfl) ?_
                              refine lv_dup hx hb dX8_token_183 rfl ?_
                              refine ta_get C hP 0 inlX8 rfl rfl 11 (by decide) tw_309 rfl dX8_token_184 ?_
                              refine ta_iconst C 1 dX8_token_187 (by decide) ?_
                              refine ta_iadd C (a := e1) (b := 1) dX8_token_188 ?_
                              refine ta_put C hP hD hS 0 inlX8 tyX8 tyX8_ok nmX8 rfl rfl 11 (by decide) tw_309 rfl rfl rfl (Nat.le_of_ble_eq_true rfl) dX8_token_189 (fun H locs hP hD hS => ?_)
                              have hP : va_P D vwCl [(z 0, .inr (8, [.ref (z 1), .int (nI L), .ref (z 2), .ref (z 3), .ref (z 4), .ref (z 5), .int (nI kn), .ref (z 6), .ref (z 7), .ref (z 8), .int (nI no), .int (nI (e1 + 1)), .int (nI 2), .int (nI s1), .int (nI (((10 * v1) + (tx e1)) - 48)), .ref (z 9)])), (z 1, .inl (k.1 0, 160, .inl (ta_e tx)))] H := hP
                              have hD : va_D A [(z 0, .inr (8, [.ref (z 1), .int (nI L), .ref (z 2), .ref (z 3), .ref (z 4), .ref (z 5), .int (nI kn), .ref (z 6), .ref (z 7), .ref (z 8), .int (nI no), .int (nI (e1 + 1)), .int (nI 2), .int (nI s1), .int (nI (((10 * v1) + (tx e1)) - 48)), .ref (z 9)])), (z 1, .inl (k.1 0, 160, .inl (ta_e tx)))] := hD
                              refine lv_goto (tgt := 118) hx hb dX8_token_192 (by decide) ?_
                              have hdg : tx_s tx L e1 = 2 := by unfold tx_s; rw [if_pos (by omega), if_neg (by omega), if_pos (by omega)]
                              have h5n : ((10 * v1) + (tx e1)) - 48 = mo_v tx s1 (e1 + 1) := by
                                rcases (show e1 = s1 ∨ e1 = s1 + 1 by omega) with h8 | h8
                                · subst h8
                                  unfold mo_v at h5 ⊢
                                  rw [if_pos (by omega)] at h5
                                  rw [if_neg (by omega), if_pos (by omega)]
                                  omega
                                · subst h8
                                  have h9 := h6 s1 (by omega) (by omega)
                                  unfold mo_v at h5 ⊢
                                  rw [if_neg (by omega), if_pos (by omega)] at h5
                                  rw [if_neg (by omega), if_neg (by omega), if_pos (by omega)]
                                  omega
                              have h6n : ∀ j, s1 ≤ j → j < e1 + 1 → 48 ≤ tx j ∧ tx j ≤ 57 := by
                                intro j h1 h2
                                rcases Nat.lt_or_ge j e1 with h8 | h8
                                · exact h6 j h1 h8
                                · obtain rfl : j = e1 := by omega
                                  omega
                              exact ih_118 (e1 + 1) (((10 * v1) + (tx e1)) - 48) (by omega) (by omega) (by rw [← h4]; exact (tk_rn_y (by decide) hdg).symm) h5n h6n (by omega) _ _ _ hP hD hS (lv_sub hl [0] rfl)
                        · obtain ⟨hv53, rfl⟩ := h0
                          have hP : va_P D vwCl [(z 0, .inr (8, [.ref (z 1), .int (nI L), .ref (z 2), .ref (z 3), .ref (z 4), .ref (z 5), .int (nI kn), .ref (z 6), .ref (z 7), .ref (z 8), .int (nI no), .int (nI e1), .int (nI 2), .int (nI s1), .int (nI v1), .ref (z 9)])), (z 1, .inl (k.1 0, 160, .inl (ta_e tx)))] H := hP
                          have hD : va_D A [(z 0, .inr (8, [.ref (z 1), .int (nI L), .ref (z 2), .ref (z 3), .ref (z 4), .ref (z 5), .int (nI kn), .ref (z 6), .ref (z 7), .ref (z 8), .int (nI no), .int (nI e1), .int (nI 2), .int (nI s1), .int (nI v1), .ref (z 9)])), (z 1, .inl (k.1 0, 160, .inl (ta_e tx)))] := hD
                          refine lv_if_eq (tgt := 195) hx hb dX8_token_137 (by decide) (fun c54 => ?_) (fun c54 => ?_)
                          · refine lv_aload_n hx hb dX8_token_195 rfl (lv_at hl 0 rfl) ?_
                            refine lv_dup hx hb dX8_token_196 rfl ?_
                            refine ta_get C hP 0 inlX8 rfl rfl 11 (by decide) tw_309 rfl dX8_token_197 ?_
                            refine lv_aload_n hx hb dX8_token_200 rfl (lv_at hl 0 rfl) ?_
                            refine ta_get C hP 0 inlX8 rfl rfl 12 (by decide) tw_310 rfl dX8_token_201 ?_
                            refine ta_iconst C 3 dX8_token_204 (by decide) ?_
                            refine lv_icmp_ne (tgt := 212) hx hb dX8_token_205 (by decide) (fun c55 => ?_) (fun c55 => ?_)
                            · refine ta_iconst C 0 dX8_token_212 (by decide) ?_
                              refine ta_iadd C (a := e1) (b := 0) dX8_token_213 ?_
                              refine ta_put C hP hD hS 0 inlX8 tyX8 tyX8_ok nmX8 rfl rfl 11 (by decide) tw_309 rfl rfl rfl (Nat.le_of_ble_eq_true rfl) dX8_token_214 (fun H locs hP hD hS => ?_)
                              have hP : va_P D vwCl [(z 0, .inr (8, [.ref (z 1), .int (nI L), .ref (z 2), .ref (z 3), .ref (z 4), .ref (z 5), .int (nI kn), .ref (z 6), .ref (z 7), .ref (z 8), .int (nI no), .int (nI (e1 + 0)), .int (nI 2), .int (nI s1), .int (nI v1), .ref (z 9)])), (z 1, .inl (k.1 0, 160, .inl (ta_e tx)))] H := hP
                              have hD : va_D A [(z 0, .inr (8, [.ref (z 1), .int (nI L), .ref (z 2), .ref (z 3), .ref (z 4), .ref (z 5), .int (nI kn), .ref (z 6), .ref (z 7), .ref (z 8), .int (nI no), .int (nI (e1 + 0)), .int (nI 2), .int (nI s1), .int (nI v1), .ref (z 9)])), (z 1, .inl (k.1 0, 160, .inl (ta_e tx)))] := hD
                              have hne : tx_s tx L e1 ≠ 2 := by
                                unfold tx_s; rw [if_pos (by omega)]; (repeat' split) <;> omega
                              have eat : tn_e tx L at_ = e1 + 0 := by rw [hte, ← h4]; exact tk_rn_n hne
                              have ew : mo_w tx L at_ = v1 := by unfold mo_w; rw [hms, if_pos rfl]; unfold tn_s; rw [← hs2, eat]; exact h5.symm
                              have esr : tn_s tx L at_ = s1 := hs2.symm
                              have hP : va_P D vwCl [(z 0, .inr (8, [.ref (z 1), .int (nI L), .ref (z 2), .ref (z 3), .ref (z 4), .ref (z 5), .int (nI kn), .ref (z 6), .ref (z 7), .ref (z 8), .int (nI no), .int (nI (tn_e tx L at_)), .int (nI (mo_s tx L at_)), .int (nI (tn_s tx L at_)), .int (nI (mo_w tx L at_)), .ref (z 9)])), (z 1, .inl (k.1 0, 160, .inl (ta_e tx)))] H := by rw [eat, hms, esr, ew]; exact hP
                              have hD : va_D A [(z 0, .inr (8, [.ref (z 1), .int (nI L), .ref (z 2), .ref (z 3), .ref (z 4), .ref (z 5), .int (nI kn), .ref (z 6), .ref (z 7), .ref (z 8), .int (nI no), .int (nI (tn_e tx L at_)), .int (nI (mo_s tx L at_)), .int (nI (tn_s tx L at_)), .int (nI (mo_w tx L at_)), .ref (z 9)])), (z 1, .inl (k.1 0, 160, .inl (ta_e tx)))] := ta_De hD rfl
                              exact ret () dX8_token_217 trivial hP hD hS
                            · exact absurd c55 (by decide)
                          · exact absurd c54 (by decide)
                      · obtain ⟨hge56, rfl⟩ := h0
                        have hP : va_P D vwCl [(z 0, .inr (8, [.ref (z 1), .int (nI L), .ref (z 2), .ref (z 3), .ref (z 4), .ref (z 5), .int (nI kn), .ref (z 6), .ref (z 7), .ref (z 8), .int (nI no), .int (nI e1), .int (nI 2), .int (nI s1), .int (nI v1), .ref (z 9)])), (z 1, .inl (k.1 0, 160, .inl (ta_e tx)))] H := hP
                        have hD : va_D A [(z 0, .inr (8, [.ref (z 1), .int (nI L), .ref (z 2), .ref (z 3), .ref (z 4), .ref (z 5), .int (nI kn), .ref (z 6), .ref (z 7), .ref (z 8), .int (nI no), .int (nI e1), .int (nI 2), .int (nI s1), .int (nI v1), .ref (z 9)])), (z 1, .inl (k.1 0, 160, .inl (ta_e tx)))] := hD
                        refine ta_callSi (As := [.int (nI 4294967295)]) (rest0 := []) (Wr := [(z 0, .inr (8, [.ref (z 1), .int (nI L), .ref (z 2), .ref (z 3), .ref (z 4), .ref (z 5), .int (nI kn), .ref (z 6), .ref (z 7), .ref (z 8), .int (nI no), .int (nI e1), .int (nI 2), .int (nI s1), .int (nI v1), .ref (z 9)])), (z 1, .inl (k.1 0, 160, .inl (ta_e tx)))]) C hP hD hS (c_X8_isDigit l D k 4294967295 (by omega)) [] [0, 1] rfl rfl (by decide) (by decide) (by decide) tw_325 tw_323 tw_5 tw_324 ⟨by decide, by decide, rfl⟩ ⟨Nat.le_of_ble_eq_true rfl, Nat.le_of_ble_eq_true rfl⟩ ⟨Nat.zero_le _, Nat.zero_le _⟩ hl.1 rfl (Nat.le_of_ble_eq_true rfl) dX8_token_134 (fun r57 u58 H locs h59 hP hD hS => ?_)
                        rcases h59 with h0 | h0
                        · obtain ⟨hv60, rfl⟩ := h0
                          have hP : va_P D vwCl [(z 0, .inr (8, [.ref (z 1), .int (nI L), .ref (z 2), .ref (z 3), .ref (z 4), .ref (z 5), .int (nI kn), .ref (z 6), .ref (z 7), .ref (z 8), .int (nI no), .int (nI e1), .int (nI 2), .int (nI s1), .int (nI v1), .ref (z 9)])), (z 1, .inl (k.1 0, 160, .inl (ta_e tx)))] H := hP
                          have hD : va_D A [(z 0, .inr (8, [.ref (z 1), .int (nI L), .ref (z 2), .ref (z 3), .ref (z 4), .ref (z 5), .int (nI kn), .ref (z 6), .ref (z 7), .ref (z 8), .int (nI no), .int (nI e1), .int (nI 2), .int (nI s1), .int (nI v1), .ref (z 9)])), (z 1, .inl (k.1 0, 160, .inl (ta_e tx)))] := hD
                          exfalso; have h9 := hv60; omega
                        · obtain ⟨hv61, rfl⟩ := h0
                          have hP : va_P D vwCl [(z 0, .inr (8, [.ref (z 1), .int (nI L), .ref (z 2), .ref (z 3), .ref (z 4), .ref (z 5), .int (nI kn), .ref (z 6), .ref (z 7), .ref (z 8), .int (nI no), .int (nI e1), .int (nI 2), .int (nI s1), .int (nI v1), .ref (z 9)])), (z 1, .inl (k.1 0, 160, .inl (ta_e tx)))] H := hP
                          have hD : va_D A [(z 0, .inr (8, [.ref (z 1), .int (nI L), .ref (z 2), .ref (z 3), .ref (z 4), .ref (z 5), .int (nI kn), .ref (z 6), .ref (z 7), .ref (z 8), .int (nI no), .int (nI e1), .int (nI 2), .int (nI s1), .int (nI v1), .ref (z 9)])), (z 1, .inl (k.1 0, 160, .inl (ta_e tx)))] := hD
                          refine lv_if_eq (tgt := 195) hx hb dX8_token_137 (by decide) (fun c62 => ?_) (fun c62 => ?_)
                          · refine lv_aload_n hx hb dX8_token_195 rfl (lv_at hl 0 rfl) ?_
                            refine lv_dup hx hb dX8_token_196 rfl ?_
                            refine ta_get C hP 0 inlX8 rfl rfl 11 (by decide) tw_309 rfl dX8_token_197 ?_
                            refine lv_aload_n hx hb dX8_token_200 rfl (lv_at hl 0 rfl) ?_
                            refine ta_get C hP 0 inlX8 rfl rfl 12 (by decide) tw_310 rfl dX8_token_201 ?_
                            refine ta_iconst C 3 dX8_token_204 (by decide) ?_
                            refine lv_icmp_ne (tgt := 212) hx hb dX8_token_205 (by decide) (fun c63 => ?_) (fun c63 => ?_)
                            · refine ta_iconst C 0 dX8_token_212 (by decide) ?_
                              refine ta_iadd C (a := e1) (b := 0) dX8_token_213 ?_
                              refine ta_put C hP hD hS 0 inlX8 tyX8 tyX8_ok nmX8 rfl rfl 11 (by decide) tw_309 rfl rfl rfl (Nat.le_of_ble_eq_true rfl) dX8_token_214 (fun H locs hP hD hS => ?_)
                              have hP : va_P D vwCl [(z 0, .inr (8, [.ref (z 1), .int (nI L), .ref (z 2), .ref (z 3), .ref (z 4), .ref (z 5), .int (nI kn), .ref (z 6), .ref (z 7), .ref (z 8), .int (nI no), .int (nI (e1 + 0)), .int (nI 2), .int (nI s1), .int (nI v1), .ref (z 9)])), (z 1, .inl (k.1 0, 160, .inl (ta_e tx)))] H := hP
                              have hD : va_D A [(z 0, .inr (8, [.ref (z 1), .int (nI L), .ref (z 2), .ref (z 3), .ref (z 4), .ref (z 5), .int (nI kn), .ref (z 6), .ref (z 7), .ref (z 8), .int (nI no), .int (nI (e1 + 0)), .int (nI 2), .int (nI s1), .int (nI v1), .ref (z 9)])), (z 1, .inl (k.1 0, 160, .inl (ta_e tx)))] := hD
                              have hne : tx_s tx L e1 ≠ 2 := by
                                rw [show tx_s tx L e1 = 3 from if_neg (by omega)]; decide
                              have eat : tn_e tx L at_ = e1 + 0 := by rw [hte, ← h4]; exact tk_rn_n hne
                              have ew : mo_w tx L at_ = v1 := by unfold mo_w; rw [hms, if_pos rfl]; unfold tn_s; rw [← hs2, eat]; exact h5.symm
                              have esr : tn_s tx L at_ = s1 := hs2.symm
                              have hP : va_P D vwCl [(z 0, .inr (8, [.ref (z 1), .int (nI L), .ref (z 2), .ref (z 3), .ref (z 4), .ref (z 5), .int (nI kn), .ref (z 6), .ref (z 7), .ref (z 8), .int (nI no), .int (nI (tn_e tx L at_)), .int (nI (mo_s tx L at_)), .int (nI (tn_s tx L at_)), .int (nI (mo_w tx L at_)), .ref (z 9)])), (z 1, .inl (k.1 0, 160, .inl (ta_e tx)))] H := by rw [eat, hms, esr, ew]; exact hP
                              have hD : va_D A [(z 0, .inr (8, [.ref (z 1), .int (nI L), .ref (z 2), .ref (z 3), .ref (z 4), .ref (z 5), .int (nI kn), .ref (z 6), .ref (z 7), .ref (z 8), .int (nI no), .int (nI (tn_e tx L at_)), .int (nI (mo_s tx L at_)), .int (nI (tn_s tx L at_)), .int (nI (mo_w tx L at_)), .ref (z 9)])), (z 1, .inl (k.1 0, 160, .inl (ta_e tx)))] := ta_De hD rfl
                              exact ret () dX8_token_217 trivial hP hD hS
                            · exact absurd c63 (by decide)
                          · exact absurd c62 (by decide)
                exact loop_118 ((L - s1) + 1) s1 0 (by omega) (by omega) rfl (by unfold mo_v; rw [if_pos (by omega)]) (fun j h1 h2 => absurd h2 (by omega)) (Nat.lt_succ_self _) _ _ _ hP hD hS (lv_sub hl [1] rfl)
              · exact absurd c41 (by decide)
          · obtain ⟨hv64, rfl⟩ := h0
            have hP : va_P D vwCl [(z 0, .inr (8, [.ref (z 1), .int (nI L), .ref (z 2), .ref (z 3), .ref (z 4), .ref (z 5), .int (nI kn), .ref (z 6), .ref (z 7), .ref (z 8), .int (nI no), .int (nI s1), .int (nI so), .int (nI s1), .int (nI va), .ref (z 9)])), (z 1, .inl (k.1 0, 160, .inl (ta_e tx)))] H := hP
            have hD : va_D A [(z 0, .inr (8, [.ref (z 1), .int (nI L), .ref (z 2), .ref (z 3), .ref (z 4), .ref (z 5), .int (nI kn), .ref (z 6), .ref (z 7), .ref (z 8), .int (nI no), .int (nI s1), .int (nI so), .int (nI s1), .int (nI va), .ref (z 9)])), (z 1, .inl (k.1 0, 160, .inl (ta_e tx)))] := hD
            refine lv_if_eq (tgt := 74) hx hb dX8_token_67 (by decide) (fun c65 => ?_) (fun c65 => ?_)
            · refine ta_iconst C 3 dX8_token_74 (by decide) ?_
              have hsx : tx_s tx L s1 = 3 := by
                have hnb : tx_s tx L s1 ≠ 0 := by rw [hs2]; exact tk_st_nb _ _ rfl
                revert hnb
                unfold tx_s
                rw [if_pos (by omega)]
                (repeat' split) <;> omega
              have hms : mo_s tx L at_ = 3 := by unfold mo_s tn_s; rw [← hs2, if_pos (by omega)]; exact hsx
              have hte : tn_e tx L at_ = s1 + 1 := by unfold tn_e tk_en; rw [← hs2, if_pos (by omega), if_neg (by omega)]
              refine ta_put C hP hD hS 0 inlX8 tyX8 tyX8_ok nmX8 rfl rfl 12 (by decide) tw_310 rfl rfl rfl (Nat.le_of_ble_eq_true rfl) dX8_token_75 (fun H locs hP hD hS => ?_)
              have hP : va_P D vwCl [(z 0, .inr (8, [.ref (z 1), .int (nI L), .ref (z 2), .ref (z 3), .ref (z 4), .ref (z 5), .int (nI kn), .ref (z 6), .ref (z 7), .ref (z 8), .int (nI no), .int (nI s1), .int (nI 3), .int (nI s1), .int (nI va), .ref (z 9)])), (z 1, .inl (k.1 0, 160, .inl (ta_e tx)))] H := hP
              have hD : va_D A [(z 0, .inr (8, [.ref (z 1), .int (nI L), .ref (z 2), .ref (z 3), .ref (z 4), .ref (z 5), .int (nI kn), .ref (z 6), .ref (z 7), .ref (z 8), .int (nI no), .int (nI s1), .int (nI 3), .int (nI s1), .int (nI va), .ref (z 9)])), (z 1, .inl (k.1 0, 160, .inl (ta_e tx)))] := hD
              refine lv_aload_n hx hb dX8_token_78 rfl (lv_at hl 1 rfl) ?_
              refine ta_iconst C 0 dX8_token_79 (by decide) ?_
              refine ta_put C hP hD hS 0 inlX8 tyX8 tyX8_ok nmX8 rfl rfl 14 (by decide) tw_315 rfl rfl rfl (Nat.le_of_ble_eq_true rfl) dX8_token_80 (fun H locs hP hD hS => ?_)
              have hP : va_P D vwCl [(z 0, .inr (8, [.ref (z 1), .int (nI L), .ref (z 2), .ref (z 3), .ref (z 4), .ref (z 5), .int (nI kn), .ref (z 6), .ref (z 7), .ref (z 8), .int (nI no), .int (nI s1), .int (nI 3), .int (nI s1), .int (nI 0), .ref (z 9)])), (z 1, .inl (k.1 0, 160, .inl (ta_e tx)))] H := hP
              have hD : va_D A [(z 0, .inr (8, [.ref (z 1), .int (nI L), .ref (z 2), .ref (z 3), .ref (z 4), .ref (z 5), .int (nI kn), .ref (z 6), .ref (z 7), .ref (z 8), .int (nI no), .int (nI s1), .int (nI 3), .int (nI s1), .int (nI 0), .ref (z 9)])), (z 1, .inl (k.1 0, 160, .inl (ta_e tx)))] := hD
              refine lv_aload_n hx hb dX8_token_83 rfl (lv_at hl 1 rfl) ?_
              refine ta_get C hP 0 inlX8 rfl rfl 12 (by decide) tw_310 rfl dX8_token_84 ?_
              refine ta_iconst C 1 dX8_token_87 (by decide) ?_
              refine lv_icmp_ne (tgt := 118) hx hb dX8_token_88 (by decide) (fun c66 => ?_) (fun c66 => ?_)
              · refine lv_aload_n hx hb dX8_token_118 rfl (lv_at hl 1 rfl) ?_
                refine ta_get C hP 0 inlX8 rfl rfl 12 (by decide) tw_310 rfl dX8_token_119 ?_
                refine ta_iconst C 2 dX8_token_122 (by decide) ?_
                refine lv_icmp_ne (tgt := 195) hx hb dX8_token_123 (by decide) (fun c67 => ?_) (fun c67 => ?_)
                · refine lv_aload_n hx hb dX8_token_195 rfl (lv_at hl 1 rfl) ?_
                  refine lv_dup hx hb dX8_token_196 rfl ?_
                  refine ta_get C hP 0 inlX8 rfl rfl 11 (by decide) tw_309 rfl dX8_token_197 ?_
                  refine lv_aload_n hx hb dX8_token_200 rfl (lv_at hl 1 rfl) ?_
                  refine ta_get C hP 0 inlX8 rfl rfl 12 (by decide) tw_310 rfl dX8_token_201 ?_
                  refine ta_iconst C 3 dX8_token_204 (by decide) ?_
                  refine lv_icmp_ne (tgt := 212) hx hb dX8_token_205 (by decide) (fun c68 => ?_) (fun c68 => ?_)
                  · exact absurd c68 (by decide)
                  · refine ta_iconst C 1 dX8_token_208 (by decide) ?_
                    refine lv_goto (tgt := 213) hx hb dX8_token_209 (by decide) ?_
                    refine ta_iadd C (a := s1) (b := 1) dX8_token_213 ?_
                    refine ta_put C hP hD hS 0 inlX8 tyX8 tyX8_ok nmX8 rfl rfl 11 (by decide) tw_309 rfl rfl rfl (Nat.le_of_ble_eq_true rfl) dX8_token_214 (fun H locs hP hD hS => ?_)
                    have hP : va_P D vwCl [(z 0, .inr (8, [.ref (z 1), .int (nI L), .ref (z 2), .ref (z 3), .ref (z 4), .ref (z 5), .int (nI kn), .ref (z 6), .ref (z 7), .ref (z 8), .int (nI no), .int (nI (s1 + 1)), .int (nI 3), .int (nI s1), .int (nI 0), .ref (z 9)])), (z 1, .inl (k.1 0, 160, .inl (ta_e tx)))] H := hP
                    have hD : va_D A [(z 0, .inr (8, [.ref (z 1), .int (nI L), .ref (z 2), .ref (z 3), .ref (z 4), .ref (z 5), .int (nI kn), .ref (z 6), .ref (z 7), .ref (z 8), .int (nI no), .int (nI (s1 + 1)), .int (nI 3), .int (nI s1), .int (nI 0), .ref (z 9)])), (z 1, .inl (k.1 0, 160, .inl (ta_e tx)))] := hD
                    have eat : tn_e tx L at_ = s1 + 1 := by rw [hte]
                    have ew : mo_w tx L at_ = 0 := by unfold mo_w; rw [hms]; rfl
                    have esr : tn_s tx L at_ = s1 := hs2.symm
                    have hP : va_P D vwCl [(z 0, .inr (8, [.ref (z 1), .int (nI L), .ref (z 2), .ref (z 3), .ref (z 4), .ref (z 5), .int (nI kn), .ref (z 6), .ref (z 7), .ref (z 8), .int (nI no), .int (nI (tn_e tx L at_)), .int (nI (mo_s tx L at_)), .int (nI (tn_s tx L at_)), .int (nI (mo_w tx L at_)), .ref (z 9)])), (z 1, .inl (k.1 0, 160, .inl (ta_e tx)))] H := by rw [eat, hms, esr, ew]; exact hP
                    have hD : va_D A [(z 0, .inr (8, [.ref (z 1), .int (nI L), .ref (z 2), .ref (z 3), .ref (z 4), .ref (z 5), .int (nI kn), .ref (z 6), .ref (z 7), .ref (z 8), .int (nI no), .int (nI (tn_e tx L at_)), .int (nI (mo_s tx L at_)), .int (nI (tn_s tx L at_)), .int (nI (mo_w tx L at_)), .ref (z 9)])), (z 1, .inl (k.1 0, 160, .inl (ta_e tx)))] := ta_De hD rfl
                    exact ret () dX8_token_217 trivial hP hD hS
                · exact absurd c67 (by decide)
              · exact absurd c66 (by decide)
            · exact absurd c65 (by decide)
        · exact absurd c35 (by decide)
    · obtain ⟨hge69, rfl⟩ := h0
      have hP : va_P D vwCl [(z 0, .inr (8, [.ref (z 1), .int (nI L), .ref (z 2), .ref (z 3), .ref (z 4), .ref (z 5), .int (nI kn), .ref (z 6), .ref (z 7), .ref (z 8), .int (nI no), .int (nI s1), .int (nI so), .int (nI s1), .int (nI va), .ref (z 9)])), (z 1, .inl (k.1 0, 160, .inl (ta_e tx)))] H := hP
      have hD : va_D A [(z 0, .inr (8, [.ref (z 1), .int (nI L), .ref (z 2), .ref (z 3), .ref (z 4), .ref (z 5), .int (nI kn), .ref (z 6), .ref (z 7), .ref (z 8), .int (nI no), .int (nI s1), .int (nI so), .int (nI s1), .int (nI va), .ref (z 9)])), (z 1, .inl (k.1 0, 160, .inl (ta_e tx)))] := hD
      refine lv_istore_n (lv' := [(1, .int (nI 4294967295)), (0, .ref (z 0))]) hx hb dX8_token_42 rfl hl (by decide) rfl (fun ls hl => ?_)
      refine lv_aload_n hx hb dX8_token_43 rfl (lv_at hl 1 rfl) ?_
      refine lv_iload_n hx hb dX8_token_44 rfl (lv_at hl 0 rfl) ?_
      refine lv_if_ge (tgt := 52) hx hb dX8_token_45 (by decide) (fun c70 => ?_) (fun c70 => ?_)
      · exact absurd c70 (by decide)
      · refine ta_iconst C 0 dX8_token_48 (by decide) ?_
        refine lv_goto (tgt := 75) hx hb dX8_token_49 (by decide) ?_
        have hms : mo_s tx L at_ = 0 := by unfold mo_s tn_s; rw [← hs2, if_neg (by omega)]
        have hte : tn_e tx L at_ = s1 := by unfold tn_e tk_en; rw [← hs2, if_neg (by omega)]; omega
        refine ta_put C hP hD hS 0 inlX8 tyX8 tyX8_ok nmX8 rfl rfl 12 (by decide) tw_310 rfl rfl rfl (Nat.le_of_ble_eq_true rfl) dX8_token_75 (fun H locs hP hD hS => ?_)
        have hP : va_P D vwCl [(z 0, .inr (8, [.ref (z 1), .int (nI L), .ref (z 2), .ref (z 3), .ref (z 4), .ref (z 5), .int (nI kn), .ref (z 6), .ref (z 7), .ref (z 8), .int (nI no), .int (nI s1), .int (nI 0), .int (nI s1), .int (nI va), .ref (z 9)])), (z 1, .inl (k.1 0, 160, .inl (ta_e tx)))] H := hP
        have hD : va_D A [(z 0, .inr (8, [.ref (z 1), .int (nI L), .ref (z 2), .ref (z 3), .ref (z 4), .ref (z 5), .int (nI kn), .ref (z 6), .ref (z 7), .ref (z 8), .int (nI no), .int (nI s1), .int (nI 0), .int (nI s1), .int (nI va), .ref (z 9)])), (z 1, .inl (k.1 0, 160, .inl (ta_e tx)))] := hD
        refine lv_aload_n hx hb dX8_token_78 rfl (lv_at hl 1 rfl) ?_
        refine ta_iconst C 0 dX8_token_79 (by decide) ?_
        refine ta_put C hP hD hS 0 inlX8 tyX8 tyX8_ok nmX8 rfl rfl 14 (by decide) tw_315 rfl rfl rfl (Nat.le_of_ble_eq_true rfl) dX8_token_80 (fun H locs hP hD hS => ?_)
        have hP : va_P D vwCl [(z 0, .inr (8, [.ref (z 1), .int (nI L), .ref (z 2), .ref (z 3), .ref (z 4), .ref (z 5), .int (nI kn), .ref (z 6), .ref (z 7), .ref (z 8), .int (nI no), .int (nI s1), .int (nI 0), .int (nI s1), .int (nI 0), .ref (z 9)])), (z 1, .inl (k.1 0, 160, .inl (ta_e tx)))] H := hP
        have hD : va_D A [(z 0, .inr (8, [.ref (z 1), .int (nI L), .ref (z 2), .ref (z 3), .ref (z 4), .ref (z 5), .int (nI kn), .ref (z 6), .ref (z 7), .ref (z 8), .int (nI no), .int (nI s1), .int (nI 0), .int (nI s1), .int (nI 0), .ref (z 9)])), (z 1, .inl (k.1 0, 160, .inl (ta_e tx)))] := hD
        refine lv_aload_n hx hb dX8_token_83 rfl (lv_at hl 1 rfl) ?_
        refine ta_get C hP 0 inlX8 rfl rfl 12 (by decide) tw_310 rfl dX8_token_84 ?_
        refine ta_iconst C 1 dX8_token_87 (by decide) ?_
        refine lv_icmp_ne (tgt := 118) hx hb dX8_token_88 (by decide) (fun c71 => ?_) (fun c71 => ?_)
        · refine lv_aload_n hx hb dX8_token_118 rfl (lv_at hl 1 rfl) ?_
          refine ta_get C hP 0 inlX8 rfl rfl 12 (by decide) tw_310 rfl dX8_token_119 ?_
          refine ta_iconst C 2 dX8_token_122 (by decide) ?_
          refine lv_icmp_ne (tgt := 195) hx hb dX8_token_123 (by decide) (fun c72 => ?_) (fun c72 => ?_)
          · refine lv_aload_n hx hb dX8_token_195 rfl (lv_at hl 1 rfl) ?_
            refine lv_dup hx hb dX8_token_196 rfl ?_
            refine ta_get C hP 0 inlX8 rfl rfl 11 (by decide) tw_309 rfl dX8_token_197 ?_
            refine lv_aload_n hx hb dX8_token_200 rfl (lv_at hl 1 rfl) ?_
            refine ta_get C hP 0 inlX8 rfl rfl 12 (by decide) tw_310 rfl dX8_token_201 ?_
            refine ta_iconst C 3 dX8_token_204 (by decide) ?_
            refine lv_icmp_ne (tgt := 212) hx hb dX8_token_205 (by decide) (fun c73 => ?_) (fun c73 => ?_)
            · refine ta_iconst C 0 dX8_token_212 (by decide) ?_
              refine ta_iadd C (a := s1) (b := 0) dX8_token_213 ?_
              refine ta_put C hP hD hS 0 inlX8 tyX8 tyX8_ok nmX8 rfl rfl 11 (by decide) tw_309 rfl rfl rfl (Nat.le_of_ble_eq_true rfl) dX8_token_214 (fun H locs hP hD hS => ?_)
              have hP : va_P D vwCl [(z 0, .inr (8, [.ref (z 1), .int (nI L), .ref (z 2), .ref (z 3), .ref (z 4), .ref (z 5), .int (nI kn), .ref (z 6), .ref (z 7), .ref (z 8), .int (nI no), .int (nI (s1 + 0)), .int (nI 0), .int (nI s1), .int (nI 0), .ref (z 9)])), (z 1, .inl (k.1 0, 160, .inl (ta_e tx)))] H := hP
              have hD : va_D A [(z 0, .inr (8, [.ref (z 1), .int (nI L), .ref (z 2), .ref (z 3), .ref (z 4), .ref (z 5), .int (nI kn), .ref (z 6), .ref (z 7), .ref (z 8), .int (nI no), .int (nI (s1 + 0)), .int (nI 0), .int (nI s1), .int (nI 0), .ref (z 9)])), (z 1, .inl (k.1 0, 160, .inl (ta_e tx)))] := hD
              have eat : tn_e tx L at_ = s1 + 0 := by rw [hte]; omega
              have ew : mo_w tx L at_ = 0 := by unfold mo_w; rw [hms]; rfl
              have esr : tn_s tx L at_ = s1 := hs2.symm
              have hP : va_P D vwCl [(z 0, .inr (8, [.ref (z 1), .int (nI L), .ref (z 2), .ref (z 3), .ref (z 4), .ref (z 5), .int (nI kn), .ref (z 6), .ref (z 7), .ref (z 8), .int (nI no), .int (nI (tn_e tx L at_)), .int (nI (mo_s tx L at_)), .int (nI (tn_s tx L at_)), .int (nI (mo_w tx L at_)), .ref (z 9)])), (z 1, .inl (k.1 0, 160, .inl (ta_e tx)))] H := by rw [eat, hms, esr, ew]; exact hP
              have hD : va_D A [(z 0, .inr (8, [.ref (z 1), .int (nI L), .ref (z 2), .ref (z 3), .ref (z 4), .ref (z 5), .int (nI kn), .ref (z 6), .ref (z 7), .ref (z 8), .int (nI no), .int (nI (tn_e tx L at_)), .int (nI (mo_s tx L at_)), .int (nI (tn_s tx L at_)), .int (nI (mo_w tx L at_)), .ref (z 9)])), (z 1, .inl (k.1 0, 160, .inl (ta_e tx)))] := ta_De hD rfl
              exact ret () dX8_token_217 trivial hP hD hS
            · exact absurd c73 (by decide)
          · exact absurd c72 (by decide)
        · exact absurd c71 (by decide)
  have loop_0 : ∀ (N_0 : Nat) (p1 : Nat), (p1 ≤ L) → (tk_st tx L p1 = tk_st tx L at_) → L - p1 < N_0 → ∀ (H : Heap) (locs : List Loc) (ls : Array Slot), va_P D vwCl [(z 0, .inr (8, [.ref (z 1), .int (nI L), .ref (z 2), .ref (z 3), .ref (z 4), .ref (z 5), .int (nI kn), .ref (z 6), .ref (z 7), .ref (z 8), .int (nI no), .int (nI p1), .int (nI so), .int (nI sr), .int (nI va), .ref (z 9)])), (z 1, .inl (k.1 0, 160, .inl (ta_e tx)))] H → va_D A [(z 0, .inr (8, [.ref (z 1), .int (nI L), .ref (z 2), .ref (z 3), .ref (z 4), .ref (z 5), .int (nI kn), .ref (z 6), .ref (z 7), .ref (z 8), .int (nI no), .int (nI p1), .int (nI so), .int (nI sr), .int (nI va), .ref (z 9)])), (z 1, .inl (k.1 0, 160, .inl (ta_e tx)))] → va_S A s.heap H locs → lv_has ls 2 [(0, .ref (z 0))] → W p l e ({ frames := 2, cells := 0, slots := 0, locals := 60 }) s m ([.ref (z 0)] : List Value).toArray below meth c H locs 0 0 Q (F0 m 0 ls []) := by
    clear hP hD hS hl
    intro N_0
    induction N_0 with
    | zero =>
      intro p1 h1 h2 hf_0
      exact absurd hf_0 (Nat.not_lt_zero _)
    | succ N_0 ih_0 =>
      intro p1 h1 h2 hf_0 H locs ls hP hD hS hl
      refine lv_aload_n hx hb dX8_token_0 rfl (lv_at hl 0 rfl) ?_
      refine lv_aload_n hx hb dX8_token_1 rfl (lv_at hl 0 rfl) ?_
      refine ta_get C hP 0 inlX8 rfl rfl 11 (by decide) tw_309 rfl dX8_token_2 ?_
      refine ta_callVi (As := [.int (nI p1)]) (rest0 := []) (Wr := []) C hP hD hS (c_X8_letterAt l D k z kn no p1 so sr va L tx p1 (by omega) (by omega)) 0 rfl rfl rfl [0, 1] [] rfl rfl (by decide) (by decide) (by decide) tw_319 tw_316 tw_5 tw_317 tw_318 ⟨by decide, by decide, rfl⟩ ⟨Nat.le_of_ble_eq_true rfl, Nat.le_of_ble_eq_true rfl⟩ ⟨Nat.zero_le _, Nat.zero_le _⟩ hl.1 rfl (Nat.le_of_ble_eq_true rfl) dX8_token_5 (fun r74 u75 H locs h76 hP hD hS => ?_)
      rcases h76 with h0 | h0
      · obtain ⟨hlt77, rfl⟩ := h0
        have hP : va_P D vwCl [(z 0, .inr (8, [.ref (z 1), .int (nI L), .ref (z 2), .ref (z 3), .ref (z 4), .ref (z 5), .int (nI kn), .ref (z 6), .ref (z 7), .ref (z 8), .int (nI no), .int (nI p1), .int (nI so), .int (nI sr), .int (nI va), .ref (z 9)])), (z 1, .inl (k.1 0, 160, .inl (ta_e tx)))] H := hP
        have hD : va_D A [(z 0, .inr (8, [.ref (z 1), .int (nI L), .ref (z 2), .ref (z 3), .ref (z 4), .ref (z 5), .int (nI kn), .ref (z 6), .ref (z 7), .ref (z 8), .int (nI no), .int (nI p1), .int (nI so), .int (nI sr), .int (nI va), .ref (z 9)])), (z 1, .inl (k.1 0, 160, .inl (ta_e tx)))] := hD
        have hc1 := hc p1 (by omega)
        refine ta_bipush C 32 dX8_token_8 (by decide) ?_
        refine ta_cne C (a := tx p1) (b := 32) (tgt := 26) (by omega) (by omega) dX8_token_10 (by decide) (fun c78 => ?_) (fun c78 => ?_)
        · exact join_26 p1 (by omega) (by rw [← h2]; exact (tk_st_n (by unfold tx_s; rw [if_pos (by omega)]; (repeat' split) <;> omega)).symm) _ _ _ hP hD hS (lv_sub hl [0] rfl)
        · refine lv_aload_n hx hb dX8_token_13 rfl (lv_at hl 0 rfl) ?_
          refine lv_dup hx hb dX8_token_14 rfl ?_
          refine ta_get C hP 0 inlX8 rfl rfl 11 (by decide) tw_309 rfl dX8_token_15 ?_
          refine ta_iconst C 1 dX8_token_18 (by decide) ?_
          refine ta_iadd C (a := p1) (b := 1) dX8_token_19 ?_
          refine ta_put C hP hD hS 0 inlX8 tyX8 tyX8_ok nmX8 rfl rfl 11 (by decide) tw_309 rfl rfl rfl (Nat.le_of_ble_eq_true rfl) dX8_token_20 (fun H locs hP hD hS => ?_)
          have hP : va_P D vwCl [(z 0, .inr (8, [.ref (z 1), .int (nI L), .ref (z 2), .ref (z 3), .ref (z 4), .ref (z 5), .int (nI kn), .ref (z 6), .ref (z 7), .ref (z 8), .int (nI no), .int (nI (p1 + 1)), .int (nI so), .int (nI sr), .int (nI va), .ref (z 9)])), (z 1, .inl (k.1 0, 160, .inl (ta_e tx)))] H := hP
          have hD : va_D A [(z 0, .inr (8, [.ref (z 1), .int (nI L), .ref (z 2), .ref (z 3), .ref (z 4), .ref (z 5), .int (nI kn), .ref (z 6), .ref (z 7), .ref (z 8), .int (nI no), .int (nI (p1 + 1)), .int (nI so), .int (nI sr), .int (nI va), .ref (z 9)])), (z 1, .inl (k.1 0, 160, .inl (ta_e tx)))] := hD
          refine lv_goto (tgt := 0) hx hb dX8_token_23 (by decide) ?_
          exact ih_0 (p1 + 1) (by omega) (by rw [← h2]; exact (tk_st_y (by unfold tx_s; rw [if_pos (by omega), if_neg (by omega), if_neg (by omega), if_pos (by omega)])).symm) (by omega) _ _ _ hP hD hS (lv_sub hl [0] rfl)
      · obtain ⟨hge79, rfl⟩ := h0
        have hP : va_P D vwCl [(z 0, .inr (8, [.ref (z 1), .int (nI L), .ref (z 2), .ref (z 3), .ref (z 4), .ref (z 5), .int (nI kn), .ref (z 6), .ref (z 7), .ref (z 8), .int (nI no), .int (nI p1), .int (nI so), .int (nI sr), .int (nI va), .ref (z 9)])), (z 1, .inl (k.1 0, 160, .inl (ta_e tx)))] H := hP
        have hD : va_D A [(z 0, .inr (8, [.ref (z 1), .int (nI L), .ref (z 2), .ref (z 3), .ref (z 4), .ref (z 5), .int (nI kn), .ref (z 6), .ref (z 7), .ref (z 8), .int (nI no), .int (nI p1), .int (nI so), .int (nI sr), .int (nI va), .ref (z 9)])), (z 1, .inl (k.1 0, 160, .inl (ta_e tx)))] := hD
        refine ta_bipush C 32 dX8_token_8 (by decide) ?_
        refine lv_icmp_ne (tgt := 26) hx hb dX8_token_10 (by decide) (fun c80 => ?_) (fun c80 => ?_)
        · exact join_26 p1 (by omega) (by rw [← h2]; exact (tk_st_n (by rw [show tx_s tx L p1 = 3 from if_neg (by omega)]; decide)).symm) _ _ _ hP hD hS (lv_sub hl [0] rfl)
        · exact absurd c80 (by decide)
  exact loop_0 ((L - at_) + 1) at_ (by omega) rfl (Nat.lt_succ_self _) _ _ _ hP hD hS (lv_sub hl [0] rfl)
